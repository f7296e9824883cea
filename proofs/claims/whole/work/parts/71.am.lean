/-! the run, as a machine of its own: the reference's cells 183 .. 186, 55 .. 57 -/
noncomputable def am_rd (π : fb_S) (d : Int → Int) (f v : Int) : Int := if iv_z π f v = 2 then d (ly_p π f v 0) + 256 * d (ly_p π f v 0 + 1) else d (ly_p π f v 0)
noncomputable def am_wr (π α : fb_S) (f v x : Int) : fb_S := if iv_z π f v = 2 then fb_sm (fb_sm α 56 (ly_p π f v 0) (x % 256)) 56 (ly_p π f v 0 + 1) (x / 256 % 256) else fb_sm α 56 (ly_p π f v 0) (x % 256)
def am_xk (π : fb_S) (K : Int) : Int := π.2 14 (K / 24) + K % 24
def am_K (α : fb_S) : Int := α.2 55 (α.1 185 - 1)
def am_adv (α : fb_S) (K : Int) : fb_S := fb_sm α 55 (α.1 185 - 1) K
def am_snd (α : fb_S) (b : Int) : fb_S := if 100 ≤ α.1 186 then fb_sg α 186 (α.1 186 + 1) else fb_sg (fb_sm α 57 (α.1 186) b) 186 (α.1 186 + 1)
def am_cmp (op x y : Int) : Int := if op = 1 then x else if op = 2 then x + y else if op = 3 then x - y else if op = 4 then ((x.toNat &&& y.toNat : Nat) : Int) else if op = 5 then ((x.toNat ||| y.toNat : Nat) : Int) else if op = 6 then ((x.toNat ^^^ y.toNat : Nat) : Int) else x + x
noncomputable def am_dec (π : fb_S) (L : Int → Int) (α : fb_S) (K k : Int) (c : Bool) : fb_S := am_adv (fb_sg α 184 (α.1 184 + (if ¬ L k = 0 ∧ c = true then 2 else 1))) (if c = true then kx π (ly_gi π k) else K + 1)
noncomputable def am_flt (π : fb_S) (L : Int → Int) (α : fb_S) (k : Int) : fb_S := fb_sg (fb_sg α 183 2) 184 (α.1 184 + (4 - ly_w1 π L k))
noncomputable def am_ent (π α : fb_S) (f g a : Int) : fb_S := (fun β => fb_sg (fb_sm β 55 (β.1 185) (24 * g)) 185 (β.1 185 + 1)) (if iv_z π g 0 = 1 ∨ iv_z π g 0 = 2 then am_wr π α g 0 (am_rd π (α.2 56) f a) else α)
def am_lv0 (α : fb_S) (x : Int) : fb_S := fb_sg (fb_sm (fb_sm α 56 126 (x % 256)) 56 127 (x / 256)) 185 (α.1 185 - 1)
noncomputable def am_lv (π α : fb_S) (x : Int) : fb_S := if α.1 185 - 1 = 0 then fb_sg (am_lv0 α x) 183 1 else (fun β => am_adv (fb_sg β 184 (β.1 184 + ly_w2 π (am_xk π (α.2 55 (α.1 185 - 1 - 1))))) (α.2 55 (α.1 185 - 1 - 1) + 1)) (am_wr π (am_lv0 α x) (α.2 55 (α.1 185 - 1 - 1) / 24) (π.2 20 (am_xk π (α.2 55 (α.1 185 - 1 - 1)))) x)
/-- one instruction k (grid place K, function f) from the state α, its cost already in -/
noncomputable def am_do (π : fb_S) (L : Int → Int) (α : fb_S) (K f k : Int) : fb_S :=
  if π.2 17 k = 10 then am_adv α (kx π (ly_gi π k))
  else if π.2 17 k = 11 then am_dec π L α K k (decide (am_rd π (α.2 56) f (π.2 18 k) = 0))
  else if π.2 17 k = 12 then am_dec π L α K k (decide (am_rd π (α.2 56) f (π.2 18 k) < am_rd π (α.2 56) f (π.2 19 k)))
  else if π.2 17 k = 8 then (if am_rd π (α.2 56) f (π.2 20 k) < iv_z π f (π.2 19 k) then am_adv (am_wr π α f (π.2 18 k) (α.2 56 (ly_p π f (π.2 19 k) 0 + am_rd π (α.2 56) f (π.2 20 k)))) (K + 1) else am_flt π L α k)
  else if π.2 17 k = 9 then (if am_rd π (α.2 56) f (π.2 19 k) < iv_z π f (π.2 18 k) then am_adv (fb_sm α 56 (ly_p π f (π.2 18 k) 0 + am_rd π (α.2 56) f (π.2 19 k)) (am_rd π (α.2 56) f (π.2 20 k) % 256)) (K + 1) else am_flt π L α k)
  else if π.2 17 k = 13 then am_ent π α f (π.2 18 k) (π.2 19 k)
  else if π.2 17 k = 14 then am_lv π α (am_rd π (α.2 56) f (π.2 18 k))
  else if π.2 17 k = 15 then am_adv (if iv_z π f (π.2 18 k) = 2 then am_snd (am_snd α (α.2 56 (ly_p π f (π.2 18 k) 0))) (α.2 56 (ly_p π f (π.2 18 k) 0 + 1)) else am_snd α (α.2 56 (ly_p π f (π.2 18 k) 0))) (K + 1)
  else if π.2 17 k = 0 then am_adv (am_wr π α f (π.2 18 k) (π.2 19 k)) (K + 1)
  else am_adv (am_wr π α f (π.2 18 k) (am_cmp (π.2 17 k) (am_rd π (α.2 56) f (if π.2 17 k = 7 then π.2 18 k else π.2 19 k)) (if 2 ≤ π.2 17 k ∧ π.2 17 k ≤ 6 then am_rd π (α.2 56) f (π.2 20 k) else 0))) (K + 1)
noncomputable def am_st (π : fb_S) (L : Int → Int) (α : fb_S) : fb_S := am_do π L (fb_sg α 184 (α.1 184 + ly_w1 π L (am_xk π (am_K α)))) (am_K α) (am_K α / 24) (am_xk π (am_K α))
def am_vK (π : fb_S) (K : Int) : Prop := 0 ≤ K ∧ K / 24 < π.1 41 ∧ K % 24 < π.2 15 (K / 24)
def am_W (π α : fb_S) : Prop := (1 ≤ α.1 185 ∧ α.1 185 ≤ 6) ∧ (∀ j, 0 ≤ j → j < α.1 185 → am_vK π (α.2 55 j)) ∧ (∀ j, 0 ≤ j → j + 1 < α.1 185 → π.2 17 (am_xk π (α.2 55 j)) = 13 ∧ π.2 18 (am_xk π (α.2 55 j)) = α.2 55 (j + 1) / 24) ∧ α.2 55 0 / 24 = 0 ∧ ∀ j, 0 ≤ j → j < 128 → 0 ≤ α.2 56 j ∧ α.2 56 j ≤ 255
def mo_X (π : fb_S) (L : Int → Int) (σ : fb_S) : Prop := iv_P π ∧ iv_good π ∧ pg π σ ∧ (∀ x, 0 ≤ x → x < 6 → σ.2 47 x = iv_bs π x) ∧ (∀ j, 0 ≤ j → j < π.1 42 → σ.2 53 (kx π j) = ly_w1 π L j ∧ (π.2 17 j = 13 → σ.2 54 (kx π j) = ly_w2 π j)) ∧ (∀ j, 0 ≤ j → j < π.1 42 → σ.2 52 (kx π j) = L j) ∧ ∀ j, 0 ≤ j → j < π.1 42 → L j = 0 ∨ L j = 1
section AM
variable {E : fb_E} {π σ τ α : fb_S} {L : Int → Int} {f v K k : Int} {Q : Int → fb_S → Prop}
theorem mo_okR : fr_ok [55, 56, 57] [183, 184, 185, 186] := by unfold fr_ok; simp
theorem mo_X_fr (X : mo_X π L σ) (fr : fr_a [55, 56, 57] [183, 184, 185, 186] σ τ) : mo_X π L τ := by
  obtain ⟨x1, x2, x3, x4, x5, x6, x7⟩ := X
  refine ⟨x1, x2, x3.fr mo_okR fr, ?_, ?_, ?_, x7⟩
  · rw [fr.2 47 (by simp)]; exact x4
  · rw [fr.2 53 (by simp), fr.2 54 (by simp)]; exact x5
  · rw [fr.2 52 (by simp)]; exact x6
theorem ly_p0 (hP : iv_P π) (hg : iv_good π) (f0 : 0 ≤ f) (f1 : f < π.1 41) (hv : iv_z π f v ≠ 0) : ly_p π f v 0 = iv_bs π f + iv_ps π f v.toNat ∧ 0 ≤ ly_p π f v 0 ∧ ly_p π f v 0 + iv_z π f v ≤ 120 ∧ (1 ≤ iv_z π f v ∧ iv_z π f v ≤ 8) ∧ (0 ≤ v ∧ v < 6) := by
  have hA := hP.1
  unfold iv_A at hA
  have hr := iv_sc_in hv
  have f6 : f < 6 := by omega
  have h1 := iv_pl_in hP f0 f6 hr.1 hr.2
  have h2 := hg.2.2.2.2 f f0 f1
  have h3 := iv_bs_0 hP f
  have hz : iv_z π f v = π.2 (7 + f.toNat) v := by unfold iv_z; rw [if_pos hr]
  have hc := hP.2.2.1 f v f0 f6 hr.1 hr.2
  have hb := hP.2.1 f f0 f6
  have e : ly_p π f v 0 = iv_bs π f + iv_ps π f v.toNat := by unfold ly_p; rw [if_pos (by omega), Int.add_zero]
  exact ⟨e, by omega, by omega, by omega, by omega⟩
theorem mo_X.pl (X : mo_X π L σ) (f0 : 0 ≤ f) (f1 : f < π.1 41) (hv : iv_z π f v ≠ 0) (h : Q (ly_p π f v 0) σ) : fb_V E fb_Mo_place 0 [.inr 5, .inl f, .inl v, .inr 999, .inr 999] [] σ Q := by
  obtain ⟨x1, x2, x3, x4, x5, x6, x7⟩ := X
  have hA := x1.1
  unfold iv_A at hA
  have hr := iv_sc_in hv
  have hp := ly_p0 x1 x2 f0 f1 hv
  apply cm_place (x3.P x1) f v f0 (by omega) hr.1 (by rw [x3.a 13 (by omega)]; omega)
  rw [x4 f f0 (by omega), x3.ps (by omega), ← hp.1]
  exact h
theorem mo_X.sz (X : mo_X π L σ) (f0 : 0 ≤ f) (f1 : f < π.1 41) (hv : iv_z π f v ≠ 0) : σ.2 42 (6 * f + v) = iv_z π f v ∧ (0 ≤ 6 * f + v ∧ 6 * f + v < 36) := by
  obtain ⟨x1, x2, x3, x4, x5, x6, x7⟩ := X
  have hA := x1.1
  unfold iv_A at hA
  have hr := iv_sc_in hv
  have hb := x1.2.1 f f0 (by omega)
  have hc := x1.2.2.1 f v f0 (by omega) hr.1 hr.2
  have hz : iv_z π f v = π.2 (7 + f.toNat) v := by unfold iv_z; rw [if_pos hr]
  rw [x3.a 42 (by omega), hc.2, hz]
  exact ⟨rfl, by omega⟩
theorem mo_X.rd (X : mo_X π L σ) (f0 : 0 ≤ f) (f1 : f < π.1 41) (hv : iv_sc (iv_z π f) v) (h : Q (am_rd π (σ.2 56) f v) σ) : fb_V E fb_Mo_read 0 [.inr 5, .inl f, .inl v, .inr 999] [] σ Q := by
  have hz : iv_z π f v = 1 ∨ iv_z π f v = 2 := hv
  have hp := ly_p0 X.1 X.2.1 f0 f1 (show iv_z π f v ≠ 0 by omega)
  have hs := X.sz f0 f1 (show iv_z π f v ≠ 0 by omega)
  unfold am_rd at h
  apply Mo_read_b0
  apply X.pl f0 f1 (by omega)
  rw [hs.1]
  refine ⟨hs.2, by omega, fun q => ⟨by omega, ?_⟩, fun q => ⟨by omega, by omega, ?_⟩⟩
  · rw [if_neg q] at h; exact h
  · rw [if_pos q] at h; exact h
theorem mo_X.wr (X : mo_X π L σ) (f0 : 0 ≤ f) (f1 : f < π.1 41) (hv : iv_sc (iv_z π f) v) {x : Int} (hx : -2147483648 ≤ x ∧ x < 2147483648) (h : Q 0 (am_wr π σ f v x)) : fb_V E fb_Mo_write 0 [.inr 5, .inl f, .inl v, .inl x, .inr 999] [] σ Q := by
  have hz : iv_z π f v = 1 ∨ iv_z π f v = 2 := hv
  have hp := ly_p0 X.1 X.2.1 f0 f1 (show iv_z π f v ≠ 0 by omega)
  have hs := X.sz f0 f1 (show iv_z π f v ≠ 0 by omega)
  unfold am_wr at h
  apply Mo_write_b0
  apply X.pl f0 f1 (by omega)
  rw [hs.1]
  refine ⟨by omega, hs.2, by omega, fun q => ?_, fun q => ⟨hx, by omega, ?_⟩⟩
  · rw [if_neg q] at h; exact h
  · rw [if_pos q] at h; exact h
theorem am_rd_in (hd : ∀ j, 0 ≤ j → j < 128 → 0 ≤ α.2 56 j ∧ α.2 56 j ≤ 255) (hP : iv_P π) (hg : iv_good π) (f0 : 0 ≤ f) (f1 : f < π.1 41) (hv : iv_z π f v ≠ 0) : (0 ≤ am_rd π (α.2 56) f v ∧ am_rd π (α.2 56) f v ≤ 65535) ∧ (¬ iv_z π f v = 2 → am_rd π (α.2 56) f v ≤ 255) := by
  have hp := ly_p0 hP hg f0 f1 hv
  have h1 := hd (ly_p π f v 0) (by omega) (by omega)
  unfold am_rd
  split
  · have h2 := hd (ly_p π f v 0 + 1) (by omega) (by omega)
    omega
  · omega
theorem am_vK_k (hP : iv_P π) (h : am_vK π K) : (0 ≤ K / 24 ∧ K / 24 < π.1 41) ∧ (0 ≤ K % 24 ∧ K % 24 < π.2 15 (K / 24)) ∧ (0 ≤ am_xk π K ∧ am_xk π K < π.1 42) ∧ π.2 16 (am_xk π K) = K / 24 ∧ kx π (am_xk π K) = K ∧ (0 ≤ K ∧ K < 144) := by
  have hA := hP.1
  unfold iv_A at hA
  obtain ⟨h0, h1, h2⟩ := h
  have hfk := iv_fk hP (f := K / 24) (i := K % 24) (by omega) h1 (by omega) h2
  have hkx := kx_fi hP (f := K / 24) (i := K % 24) (by omega) h1 (by omega) h2
  unfold am_xk
  exact ⟨by omega, by omega, hfk.1, hfk.2.1, by rw [hkx]; omega, by omega⟩
theorem am_kx_v (hP : iv_P π) (k0 : 0 ≤ k) (k1 : k < π.1 42) : am_vK π (kx π k) ∧ am_xk π (kx π k) = k ∧ kx π k / 24 = π.2 16 k := by
  have hk := iv_k hP k0 k1
  have hi := kx_in hP k0 k1
  have e1 : kx π k / 24 = π.2 16 k := by unfold kx; omega
  have e2 : kx π k % 24 = k - π.2 14 (π.2 16 k) := by unfold kx; omega
  refine ⟨⟨hi.1.1, by rw [e1]; exact hk.1.2, by rw [e1, e2]; exact hk.2.2.2.2.2⟩, ?_, e1⟩
  unfold am_xk
  rw [e1, e2]
  omega
/-- an instruction that isn't GOTO or RETURN has one behind it -/
theorem am_next (hP : iv_P π) (hg : iv_good π) (h : am_vK π K) (ho : ¬ π.2 17 (am_xk π K) = 10) (ho2 : ¬ π.2 17 (am_xk π K) = 14) : am_vK π (K + 1) ∧ am_xk π (K + 1) = am_xk π K + 1 ∧ (K + 1) / 24 = K / 24 := by
  have hv := am_vK_k hP h
  have hb := hP.2.1 (K / 24) hv.1.1 (by have := hP.1; unfold iv_A at this; omega)
  have hw := (hg.1.2 (K / 24) hv.1.1 hv.1.2).2
  have hlt : K % 24 + 1 < π.2 15 (K / 24) := by
    by_cases e : K % 24 + 1 < π.2 15 (K / 24)
    · exact e
    · exfalso
      rw [show π.2 14 (K / 24) + π.2 15 (K / 24) - 1 = π.2 14 (K / 24) + K % 24 by omega] at hw
      rcases hw with q | q
      · exact ho q
      · exact ho2 q
  have e1 : (K + 1) / 24 = K / 24 := by omega
  have e2 : (K + 1) % 24 = K % 24 + 1 := by omega
  refine ⟨⟨by omega, by rw [e1]; exact h.2.1, by rw [e1, e2]; exact hlt⟩, ?_, e1⟩
  unfold am_xk
  rw [e1, e2]
  omega
end AM
