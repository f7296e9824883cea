/-! the reference's step is the machine's -/
section MST
variable {E : fb_E} {π σ τ α : fb_S} {L : Int → Int} {f v K k : Int} {Q : Int → fb_S → Prop}
/-- what stands at a grid place -/
theorem mo_at (X : mo_X π L σ) (h : am_vK π K) : σ.2 43 K = π.2 17 (am_xk π K) ∧ σ.2 44 K = π.2 18 (am_xk π K) ∧ σ.2 45 K = π.2 19 (am_xk π K) ∧ σ.2 46 K = π.2 20 (am_xk π K) ∧ σ.2 53 K = ly_w1 π L (am_xk π K) ∧ σ.2 52 K = L (am_xk π K) ∧ iv_fi π (K / 24) (π.2 17 (am_xk π K)) (π.2 18 (am_xk π K)) (π.2 19 (am_xk π K)) (π.2 20 (am_xk π K)) := by
  obtain ⟨x1, x2, x3, x4, x5, x6, x7⟩ := X
  have hv := am_vK_k x1 h
  have hfk := iv_fk x1 (f := K / 24) (i := K % 24) hv.1.1 hv.1.2 hv.2.1.1 hv.2.1.2
  rw [show 24 * (K / 24) + K % 24 = K by omega] at hfk
  have hk := iv_k x1 hv.2.2.1.1 hv.2.2.1.2
  rw [hv.2.2.2.1] at hk
  refine ⟨by rw [x3.a 43 (by omega)]; exact hfk.2.2.1, by rw [x3.a 44 (by omega)]; exact hfk.2.2.2.1, by rw [x3.a 45 (by omega)]; exact hfk.2.2.2.2.1, by rw [x3.a 46 (by omega)]; exact hfk.2.2.2.2.2.1, ?_, ?_, hk.2.2.2.1⟩
  · have := (x5 _ hv.2.2.1.1 hv.2.2.1.2).1
    rw [hv.2.2.2.2.1] at this
    exact this
  · have := x6 _ hv.2.2.1.1 hv.2.2.1.2
    rw [hv.2.2.2.2.1] at this
    exact this
theorem mo_gl (X : mo_X π L σ) (h : am_vK π K) (ho : π.2 17 (am_xk π K) = 10 ∨ π.2 17 (am_xk π K) = 11 ∨ π.2 17 (am_xk π K) = 12) (q : ∀ r, 24 * (K / 24) + r = kx π (ly_gi π (am_xk π K)) → Q r σ) : fb_V E fb_Mo_goal 0 [.inr 5, .inl K] [] σ Q := by
  obtain ⟨x1, x2, x3, x4, x5, x6, x7⟩ := X
  have hv := am_vK_k x1 h
  have e : K = 24 * (K / 24) + K % 24 := by omega
  have ht := x2.2.1 _ hv.2.2.1.1 hv.2.2.1.2 (show iv_isT (π.2 17 (am_xk π K)) by unfold iv_isT; omega)
  rw [hv.2.2.2.1] at ht
  have egi : ly_gi π (am_xk π K) = π.2 14 (K / 24) + iv_tg π (am_xk π K) := by unfold ly_gi; rw [if_neg (by omega), hv.2.2.2.1]
  have ek := kx_fi x1 hv.1.1 hv.1.2 ht.1 ht.2
  rw [e]
  apply cm_goal (x3.P x1) hv.1.1 (by rw [x3.2.1]; exact hv.1.2) hv.2.1.1 (by rw [x3.a 15 (by omega)]; exact hv.2.1.2)
  refine q _ ?_
  rw [x3.tg, x3.a 14 (by omega), egi, ek]
  rfl
theorem mo_dcd (X : mo_X π L σ) (h : am_vK π K) (h185 : 0 ≤ σ.1 185 - 1 ∧ σ.1 185 - 1 < 8) (ho : π.2 17 (am_xk π K) = 11 ∨ π.2 17 (am_xk π K) = 12) (c : Int) (b : Bool) (hc : c = if b = true then 1 else 0) (q : Q 0 (am_dec π L σ K (am_xk π K) b)) : fb_V E fb_Mo_decide 0 [.inr 5, .inl K, .inl c] [] σ Q := by
  have hv := am_vK_k X.1 h
  have ha := mo_at X h
  have h7 := X.2.2.2.2.2.2 _ hv.2.2.1.1 hv.2.2.1.2
  have goalq : ∀ x : Int, (b = true → x = if ¬ L (am_xk π K) = 0 ∧ b = true then 2 else 1) → b = true → fb_V E fb_Mo_goal 0 [.inr 5, .inl K] [] (fb_sg σ 184 (σ.1 184 + x)) (fun r6 s7 => (0 ≤ (σ.1 185) - 1 ∧ (σ.1 185) - 1 < 8) ∧ Q 0 (fb_sm s7 55 (σ.1 185 - 1) (((K / 24) * 24) + r6))) := by
    intro x hx hb
    apply mo_gl (mo_X_fr X (fr_sg (fr_rf _ _ _) (by decide))) h (by omega)
    intro r hr
    refine ⟨h185, ?_⟩
    unfold am_dec at q
    rw [← hx hb, if_pos hb] at q
    rw [show K / 24 * 24 + r = kx π (ly_gi π (am_xk π K)) by omega]
    exact q
  have falq : b = false → Q 0 (fb_sm (fb_sg σ 184 (σ.1 184 + 1)) 55 (σ.1 185 - 1) (K + 1)) := by
    intro hb
    subst hb
    unfold am_dec at q
    rw [if_neg (fun z => absurd z.2 (by decide)), if_neg (by decide)] at q
    exact q
  apply Mo_decide_b0
  rw [ha.2.2.2.2.2.1]
  cases b with
  | true =>
    have hc : c = 1 := hc
    refine ⟨hv.2.2.2.2.2, by omega, fun q0 => ⟨by omega, fun q1 => by omega, fun _ => ⟨by omega, goalq 1 (fun _ => by rw [if_neg (fun z => z.1 q0)]) rfl⟩⟩, fun q0 => ⟨by omega, fun q1 => by omega, fun _ => ⟨fun q1 => by omega, fun _ => ⟨by omega, goalq 2 (fun _ => by rw [if_pos ⟨q0, rfl⟩]) rfl⟩⟩⟩⟩
  | false =>
    have hc : c = 0 := hc
    exact ⟨hv.2.2.2.2.2, by omega, fun q0 => ⟨by omega, fun q1 => ⟨h185, falq rfl⟩, fun q1 => absurd hc q1⟩, fun q0 => ⟨by omega, fun q1 => ⟨fun _ => ⟨h185, falq rfl⟩, fun q1 => absurd hc q1⟩, fun q1 => absurd hc q1⟩⟩
theorem am_wr_185 {x : Int} : (am_wr π α f v x).1 = α.1 := by unfold am_wr; split <;> rfl
theorem mo_snd (hs : 0 ≤ σ.1 186 ∧ σ.1 186 < 2147483000) (b : Int) (h : Q 0 (am_snd σ b)) : fb_V E fb_Mo_send 0 [.inr 5, .inl b] [] σ Q := by
  unfold am_snd at h
  apply Mo_send_b0
  refine ⟨by omega, fun q => ?_, fun q => ⟨by omega, ?_⟩⟩
  · rw [if_pos q] at h; exact h
  · rw [if_neg q] at h; exact h
theorem mo_tch (X : mo_X π L σ) (h : am_vK π K) (hd : ∀ j, 0 ≤ j → j < 128 → 0 ≤ σ.2 56 j ∧ σ.2 56 j ≤ 255) (h185 : 0 ≤ σ.1 185 - 1 ∧ σ.1 185 - 1 < 8) (ho : π.2 17 (am_xk π K) = 8 ∨ π.2 17 (am_xk π K) = 9) (q : Q 0 (am_do π L σ K (K / 24) (am_xk π K))) : fb_V E fb_Mo_touch 0 [.inr 5, .inl (K / 24), .inl K, .inr 999, .inr 999, .inr 999, .inr 999] [] σ Q := by
  have hv := am_vK_k X.1 h
  obtain ⟨e43, e44, e45, e46, e53, e52, hfi⟩ := mo_at X h
  have t8 : π.2 17 (am_xk π K) = 8 → iv_sc (iv_z π (K / 24)) (π.2 18 (am_xk π K)) ∧ 3 ≤ iv_z π (K / 24) (π.2 19 (am_xk π K)) ∧ iv_z π (K / 24) (π.2 20 (am_xk π K)) = 1 := hfi.2.2.2.2.2.2.2.2.1
  have t9 : π.2 17 (am_xk π K) = 9 → 3 ≤ iv_z π (K / 24) (π.2 18 (am_xk π K)) ∧ iv_z π (K / 24) (π.2 19 (am_xk π K)) = 1 ∧ iv_sc (iv_z π (K / 24)) (π.2 20 (am_xk π K)) := hfi.2.2.2.2.2.2.2.2.2.1
  clear hfi
  generalize am_xk π K = k at *
  apply Mo_touch_b0
  rw [e43, e44, e45, e46]
  unfold am_do at q
  rw [if_neg (by omega), if_neg (by omega), if_neg (by omega)] at q
  refine ⟨hv.2.2.2.2.2, by rcases ho with o | o <;> rw [o] <;> decide, fun o => ?_, fun o => ?_⟩
  · have o9 : π.2 17 k = 9 := ho.resolve_left o
    rw [if_neg o, if_pos o9] at q
    obtain ⟨ha, hb, hc⟩ := t9 o9
    clear t8 t9
    have na : iv_z π (K / 24) (π.2 18 k) ≠ 0 := by omega
    have hsc : iv_z π (K / 24) (π.2 20 k) = 1 ∨ iv_z π (K / 24) (π.2 20 k) = 2 := hc
    have hp := ly_p0 X.1 X.2.1 hv.1.1 hv.1.2 na
    have hs := X.sz hv.1.1 hv.1.2 na
    have hr := am_rd_in (v := π.2 19 k) hd X.1 X.2.1 hv.1.1 hv.1.2 (by omega)
    apply X.rd hv.1.1 hv.1.2 (Or.inl hb)
    rw [hs.1]
    refine ⟨hs.2, by omega, by omega, fun lt => ?_, fun lt => ?_⟩
    · rw [if_pos lt] at q
      apply X.pl hv.1.1 hv.1.2 na
      rw [e46]
      apply X.rd hv.1.1 hv.1.2 hc
      exact ⟨by omega, h185, q⟩
    · rw [if_neg lt] at q
      rw [e53]
      exact q
  · rw [if_pos o] at q
    obtain ⟨ha, hb, hc⟩ := t8 o
    clear t8 t9
    have nb : iv_z π (K / 24) (π.2 19 k) ≠ 0 := by omega
    have hp := ly_p0 X.1 X.2.1 hv.1.1 hv.1.2 nb
    have hs := X.sz hv.1.1 hv.1.2 nb
    have hr := am_rd_in (v := π.2 20 k) hd X.1 X.2.1 hv.1.1 hv.1.2 (by omega)
    apply X.rd hv.1.1 hv.1.2 (Or.inl hc)
    rw [hs.1]
    refine ⟨hs.2, by omega, by omega, fun lt => ?_, fun lt => ?_⟩
    · rw [if_pos lt] at q
      have hrd := hd (ly_p π (K / 24) (π.2 19 k) 0 + am_rd π (σ.2 56) (K / 24) (π.2 20 k)) (by omega) (by omega)
      apply X.pl hv.1.1 hv.1.2 nb
      refine ⟨by omega, ?_⟩
      rw [e44]
      apply X.wr hv.1.1 hv.1.2 ha (by omega)
      rw [am_wr_185]
      refine ⟨h185, ?_⟩
      unfold am_adv at q
      rw [am_wr_185] at q
      exact q
    · rw [if_neg lt] at q
      rw [e53]
      exact q
theorem mo_ent (X : mo_X π L σ) (h : am_vK π K) (hd : ∀ j, 0 ≤ j → j < 128 → 0 ≤ σ.2 56 j ∧ σ.2 56 j ≤ 255) (h185 : 0 ≤ σ.1 185 ∧ σ.1 185 < 8) (ho : π.2 17 (am_xk π K) = 13) (q : Q 0 (am_ent π σ (K / 24) (π.2 18 (am_xk π K)) (π.2 19 (am_xk π K)))) : fb_V E fb_Mo_enter 0 [.inr 5, .inl (K / 24), .inl K, .inr 999, .inr 999] [] σ Q := by
  have hv := am_vK_k X.1 h
  obtain ⟨e43, e44, e45, e46, e53, e52, hfi⟩ := mo_at X h
  have p13 := hfi.2.2.2.2.2.2.2.2.2.2.2.2.1 ho
  clear hfi
  have hcc := X.2.1.2.2.1 _ hv.2.2.1.1 hv.2.2.1.2 ho
  have hA := X.1.1
  unfold iv_A at hA
  generalize am_xk π K = k at *
  have g6 : π.2 18 k < 6 := by omega
  have hb := X.1.2.1 _ hcc.1 g6
  have hsc := p13.1
  have hsc' : iv_z π (K / 24) (π.2 19 k) = 1 ∨ iv_z π (K / 24) (π.2 19 k) = 2 := hsc
  have hr := am_rd_in (v := π.2 19 k) hd X.1 X.2.1 hv.1.1 hv.1.2 (by omega)
  apply Mo_enter_b0
  rw [e44, e45, X.2.2.1.a 40 (by omega), hb.2.1]
  unfold am_ent at q
  have hz0 : π.2 13 (π.2 18 k) ≤ 0 → iv_z π (π.2 18 k) 0 = 0 := fun le => by unfold iv_z; rw [if_neg (by omega)]
  refine ⟨hv.2.2.2.2.2, by omega, by omega, fun le => ⟨h185, ?_⟩, fun le => ?_⟩
  · rw [if_neg (by have := hz0 le; omega)] at q; exact q
  · have nz : iv_z π (π.2 18 k) 0 ≠ 0 := by
      have hc := X.1.2.2.1 (π.2 18 k) 0 hcc.1 g6 (by omega) (by omega)
      unfold iv_z
      rw [if_pos (by omega)]
      omega
    have hs := X.sz (v := 0) hcc.1 hcc.2 nz
    have hp := ly_p0 (v := 0) X.1 X.2.1 hcc.1 hcc.2 nz
    rw [Int.add_zero] at hs
    rw [hs.1]
    refine ⟨hs.2, by omega, fun le3 => ⟨h185, ?_⟩, fun le3 => ?_⟩
    · rw [if_neg (by omega)] at q; exact q
    · rw [if_pos (by omega)] at q
      apply X.rd hv.1.1 hv.1.2 hsc
      have hsc0 : iv_sc (iv_z π (π.2 18 k)) 0 := by unfold iv_sc; omega
      apply X.wr hcc.1 hcc.2 hsc0 (by omega)
      rw [am_wr_185]
      refine ⟨h185, ?_⟩
      have q' : Q 0 (fb_sg (fb_sm (am_wr π σ (π.2 18 k) 0 (am_rd π (σ.2 56) (K / 24) (π.2 19 k))) 55 ((am_wr π σ (π.2 18 k) 0 (am_rd π (σ.2 56) (K / 24) (π.2 19 k))).1 185) (24 * π.2 18 k)) 185 ((am_wr π σ (π.2 18 k) 0 (am_rd π (σ.2 56) (K / 24) (π.2 19 k))).1 185 + 1)) := q
      rw [am_wr_185] at q'
      exact q'
theorem mo_lv (X : mo_X π L σ) (W : am_W π σ) (hK : K = am_K σ) (ho : π.2 17 (am_xk π K) = 14) (q : Q 0 (am_lv π σ (am_rd π (σ.2 56) (K / 24) (π.2 18 (am_xk π K))))) : fb_V E fb_Mo_leave 0 [.inr 5, .inl (K / 24), .inl K, .inr 999, .inr 999] [] σ Q := by
  obtain ⟨w1, w2, w3, w4, w5⟩ := W
  have h : am_vK π K := by rw [hK]; exact w2 _ (by omega) (by omega)
  have hv := am_vK_k X.1 h
  obtain ⟨e43, e44, e45, e46, e53, e52, hfi⟩ := mo_at X h
  have hsc := hfi.2.2.2.2.2.2.2.2.2.2.2.2.2.1 ho
  clear hfi
  have hsc' : iv_z π (K / 24) (π.2 18 (am_xk π K)) = 1 ∨ iv_z π (K / 24) (π.2 18 (am_xk π K)) = 2 := hsc
  have hr := am_rd_in (v := π.2 18 (am_xk π K)) w5 X.1 X.2.1 hv.1.1 hv.1.2 (by omega)
  unfold am_lv at q
  apply Mo_leave_b0
  rw [e44]
  refine ⟨hv.2.2.2.2.2, ?_⟩
  apply X.rd hv.1.1 hv.1.2 hsc
  generalize hx : am_rd π (σ.2 56) (K / 24) (π.2 18 (am_xk π K)) = x at *
  refine ⟨by omega, by omega, fun m0 => ?_, fun m0 => ?_⟩
  · rw [if_neg m0] at q
    have h2 : am_vK π (σ.2 55 (σ.1 185 - 1 - 1)) := w2 _ (by omega) (by omega)
    have h13 := (w3 (σ.1 185 - 1 - 1) (by omega) (by omega)).1
    have hv2 := am_vK_k X.1 h2
    obtain ⟨f43, f44, f45, f46, f53, f52, hfi2⟩ := mo_at X h2
    have hs22 := (hfi2.2.2.2.2.2.2.2.2.2.2.2.2.1 h13).2
    clear hfi2
    have hc54 := (X.2.2.2.2.1 _ hv2.2.2.1.1 hv2.2.2.1.2).2 h13
    rw [hv2.2.2.2.2.1] at hc54
    generalize σ.2 55 (σ.1 185 - 1 - 1) = K2 at *
    have frL : fr_a [55, 56, 57] [183, 184, 185, 186] σ (am_lv0 σ x) := fr_sg (fr_sm (fr_sm (fr_rf _ _ _) (by decide)) (by decide)) (by decide)
    have XL := mo_X_fr X frL
    refine ⟨by omega, by omega, hv2.2.2.2.2.2, ?_⟩
    rw [f46]
    have hsc2 : iv_sc (iv_z π (K2 / 24)) (π.2 20 (am_xk π K2)) := by
      exact hs22
    apply XL.wr (σ := am_lv0 σ x) hv2.1.1 hv2.1.2 hsc2 (by omega)
    have e1 : (am_wr π (am_lv0 σ x) (K2 / 24) (π.2 20 (am_xk π K2)) x).1 = (am_lv0 σ x).1 := am_wr_185
    have e54 : (am_wr π (am_lv0 σ x) (K2 / 24) (π.2 20 (am_xk π K2)) x).2 54 K2 = ly_w2 π (am_xk π K2) := by
      rw [← hc54]
      unfold am_wr
      split
      · rw [fb_ne (by decide), fb_ne (by decide), frL.2 54 (by simp)]
      · rw [fb_ne (by decide), frL.2 54 (by simp)]
    rw [e54]
    have e185 : (am_wr π (am_lv0 σ x) (K2 / 24) (π.2 20 (am_xk π K2)) x).1 185 = σ.1 185 - 1 := by rw [e1]; rfl
    rw [e185]
    refine ⟨by omega, ?_⟩
    have q' : Q 0 (fb_sm (fb_sg (am_wr π (am_lv0 σ x) (K2 / 24) (π.2 20 (am_xk π K2)) x) 184 ((am_wr π (am_lv0 σ x) (K2 / 24) (π.2 20 (am_xk π K2)) x).1 184 + ly_w2 π (am_xk π K2))) 55 ((am_wr π (am_lv0 σ x) (K2 / 24) (π.2 20 (am_xk π K2)) x).1 185 - 1) (K2 + 1)) := q
    rw [e185] at q'
    exact q'
  · rw [if_pos m0] at q
    exact q
end MST
