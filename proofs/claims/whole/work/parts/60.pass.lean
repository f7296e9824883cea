/-! a pass of the class -/
theorem it_in_g {z : Int → Int} {p : Int → Int → Int} {zg pg zg' pg' op a b c ga lg pos : Int} (h : ¬ op = 13) : it_in z p zg pg op a b c ga lg pos = it_in z p zg' pg' op a b c ga lg pos := by
  unfold it_in
  rw [if_neg h, if_neg h]
theorem it_in_a {z : Int → Int} {p : Int → Int → Int} {zg pg op a b c ga ga' lg pos : Int} (h : ¬ (op = 10 ∨ op = 11 ∨ op = 12 ∨ op = 13)) : it_in z p zg pg op a b c ga lg pos = it_in z p zg pg op a b c ga' lg pos := by
  unfold it_in
  rw [if_neg (show ¬ op = 10 by omega), if_neg (show ¬ op = 11 by omega), if_neg (show ¬ op = 12 by omega), if_neg (show ¬ op = 13 by omega)]
  rw [if_neg (show ¬ op = 10 by omega), if_neg (show ¬ op = 11 by omega), if_neg (show ¬ op = 12 by omega), if_neg (show ¬ op = 13 by omega)]
section PASS
variable {E : fb_E} {π σ τ : fb_S} {L : Int → Int} {f k : Int} {Q : Int → fb_S → Prop}
theorem iv_bs_0 (hP : iv_P π) (x : Int) : 0 ≤ iv_bs π x := (bs_n_in (fun f f0 f6 => iv_fs_in hP f0 f6) 216 x).1
theorem pg.a (g : pg π σ) (a : Nat) (ha : (7 ≤ a ∧ a ≤ 20) ∨ (40 ≤ a ∧ a ≤ 46)) : σ.2 a = π.2 a := g.1 a ha
theorem as_ptp (g : pg π σ) (hF : iv_Fr π σ) (f0 : 0 ≤ f) (f1 : f < π.1 41) (f6 : f < 6) (v : Int) {i : Int} (hi : 0 ≤ i) : as_pt σ f v i = ly_p π f v i := by
  unfold as_pt ly_p
  rw [g.z f0 f6]
  by_cases h : i < iv_z π f v
  · have hr := iv_sc_in (show iv_z π f v ≠ 0 by omega)
    rw [if_pos h, if_pos h, hF.2 f v f0 f1 hr.1 hr.2]
  · rw [if_neg h, if_neg h]
theorem as_itp (hP : iv_P π) (hc : iv_ca π) (g : pg π σ) (hF : iv_Fr π σ) (k0 : 0 ≤ k) (k1 : k < π.1 42) : as_it σ (π.2 16 k) k = ly_it π k (σ.2 33 (ly_gi π k)) (σ.2 36 k) (as_pos σ (π.2 16 k) (π.2 17 k) (π.2 18 k) (π.2 19 k)) := by
  have hk := iv_k hP k0 k1
  have f6 : π.2 16 k < 6 := by omega
  have ega : as_ga σ (π.2 16 k) k = σ.2 33 (ly_gi π k) := by
    unfold as_ga ly_gi
    rw [g.a 17 (by omega), g.a 18 (by omega), g.a 14 (by omega), g.tg]
    split <;> rfl
  unfold as_it
  rw [ega, g.a 17 (by omega), g.a 18 (by omega), g.a 19 (by omega), g.a 20 (by omega), g.z hk.1.1 f6]
  unfold ly_it
  by_cases h13 : π.2 17 k = 13
  · have hcc := hc k k0 k1 h13
    rw [g.z hcc.1 (by omega)]
    refine it_in_p _ _ _ (fun v => as_ptp g hF hk.1.1 hk.1.2 f6 v (by omega)) (fun v => as_ptp g hF hk.1.1 hk.1.2 f6 v (by omega)) _ _ _ (fun hz => ?_) _ _ _ _ _ _ _
    have hr := iv_sc_in (show iv_z π (π.2 18 k) 0 ≠ 0 by omega)
    rw [hF.2 _ 0 hcc.1 hcc.2 hr.1 hr.2]
    unfold ly_p
    rw [if_pos (by omega), Int.add_zero]
  · rw [it_in_g (zg' := iv_z π (π.2 18 k) 0) (pg' := ly_p π (π.2 18 k) 0 0) h13]
    exact it_in_p _ _ _ (fun v => as_ptp g hF hk.1.1 hk.1.2 f6 v (by omega)) (fun v => as_ptp g hF hk.1.1 hk.1.2 f6 v (by omega)) _ _ _ (fun hz => rfl) _ _ _ _ _ _ _
theorem as_posp (g : pg π σ) (hF : iv_Fr π σ) (hf : 0 ≤ π.2 16 k ∧ π.2 16 k < π.1 41) (f6 : π.2 16 k < 6) (h1 : σ.1 104 = ly_a π L k) (h2 : σ.1 106 = ly_i π L k) : as_pos σ (π.2 16 k) (π.2 17 k) (π.2 18 k) (π.2 19 k) = ly_b π L k := by
  unfold as_pos ly_b ly_te
  rw [h1, h2, g.z hf.1 f6, it_te_p _ _ _ (fun v => as_ptp g hF hf.1 hf.2 f6 v (Int.le_refl 0)) (fun v => as_ptp g hF hf.1 hf.2 f6 v (by omega))]
theorem ly_gi_in (hP : iv_P π) (hg : iv_good π) (k0 : 0 ≤ k) (k1 : k < π.1 42) (ho : π.2 17 k = 10 ∨ π.2 17 k = 11 ∨ π.2 17 k = 12 ∨ π.2 17 k = 13) : 0 ≤ ly_gi π k ∧ ly_gi π k < π.1 42 := by
  have hk := iv_k hP k0 k1
  unfold ly_gi
  by_cases h13 : π.2 17 k = 13
  · rw [if_pos h13]
    have hcc := hg.2.2.1 k k0 k1 h13
    have hw := hg.1.2 _ hcc.1 hcc.2
    have hb := hP.2.1 _ hcc.1 (show π.2 18 k < 6 by omega)
    have := iv_fk hP hcc.1 hcc.2 (Int.le_refl 0) (by have := hw.1; omega)
    omega
  · rw [if_neg h13]
    have ht := hg.2.1 k k0 k1 (show iv_isT (π.2 17 k) by unfold iv_isT; omega)
    have := iv_fk hP hk.1.1 hk.1.2 ht.1 ht.2
    omega
theorem ly_bt_s {m : Int} {B B' : Int → Int} (h : ly_bt π L m B k) (k0 : 0 ≤ k) (same : ∀ j, 0 ≤ j → j < ly_a π L k → B' j = B j) (new : ∀ (i : Nat) (b : Int), (em_B (ly_i π L k) (ly_c π L k))[i]? = some b → ly_a π L k + i < m → B' (ly_a π L k + i) = b) : ly_bt π L m B' (k + 1) := by
  intro j j0 j1 i b hb hm
  by_cases e : j = k
  · rw [e] at hb hm ⊢
    exact new i b hb hm
  · have h1 := ly_a_s (π := π) (L := L) j0 (ly_a π L (ly_gi π j)) (ly_b π L j)
    have h2 : i < (em_B (ly_i π L j) (ly_c π L j)).length := (List.getElem?_eq_some_iff.mp hb).1
    have h3 := ly_a_le (π := π) (L := L) (j := j + 1) (k := k) (by omega) (by omega)
    have h4 := (ly_a_b (π := π) (L := L) j0).1
    unfold ly_c at h2
    rw [same _ (by omega) (by omega)]
    exact h j j0 (by omega) i b hb hm
def as_C (π σ : fb_S) : Prop := iv_P π ∧ iv_good π ∧ pg π σ ∧ iv_Fr π σ ∧ (∀ k, 0 ≤ k → k < 60 → σ.2 36 k = 0 ∨ σ.2 36 k = 1) ∧ (∀ j, 0 ≤ j → j < 60 → 0 ≤ σ.2 33 j ∧ σ.2 33 j < 65536) ∧ ∀ k, 0 ≤ k → k < π.1 42 → iv_01 (iv_gp π (π.1 42) (π.2 16 k) (k - π.2 14 (π.2 16 k))) (σ.2 35 k)
def as_LI (π σ : fb_S) (L : Int → Int) (k : Int) (τ : fb_S) : Prop := fr_a [31, 33, 34] [104, 106, 107] σ τ ∧ τ.1 104 = ly_a π L k ∧ (0 < k → τ.1 106 = ly_o π L k ∧ (-1 ≤ τ.1 106 ∧ τ.1 106 < 512)) ∧ (∀ j, 0 ≤ j → j < k → τ.2 33 j = ly_a π L j) ∧ (∀ j, k ≤ j → τ.2 33 j = σ.2 33 j) ∧ (∀ j, 0 ≤ j → j < k → (π.2 17 j = 11 ∨ π.2 17 j = 12) → τ.2 34 j = ly_b π L j) ∧ ((∀ j, 0 ≤ j → j < π.1 42 → σ.2 33 j = ly_a π L j) → ly_bt π L 500 (τ.2 31) k)
theorem as_okL : fr_ok [31, 33, 34] [104, 106, 107] := by unfold fr_ok; simp
theorem iv_Fr_fr {A G : List Nat} (h : iv_Fr π σ) (fr : fr_a A G σ τ) (hA : ∀ a ∈ A, ¬ (23 ≤ a ∧ a ≤ 30)) (f6 : π.1 41 ≤ 6) : iv_Fr π τ := by
  refine ⟨fun x x0 x6 => ?_, fun f v f0 f1 v0 v1 => ?_⟩
  · rw [fr.2 23 (fun q => hA 23 q (by omega))]; exact h.1 x x0 x6
  · rw [fr.2 (25 + f.toNat) (fun q => hA _ q (by omega))]; exact h.2 f v f0 f1 v0 v1
/-- the state before an instruction is put -/
def as_B (π σ : fb_S) (L : Int → Int) (k : Int) (τ τ1 : fb_S) : Prop := fr_a [31, 33, 34] [104, 106, 107] σ τ1 ∧ τ1.1 104 = ly_a π L k ∧ τ1.1 106 = ly_i π L k ∧ (-1 ≤ τ1.1 106 ∧ τ1.1 106 < 512) ∧ τ1.1 107 = π.2 16 k ∧ (∀ j, τ1.2 33 j = if j = k then ly_a π L k else τ.2 33 j) ∧ τ1.2 34 = τ.2 34 ∧ τ1.2 31 = τ.2 31
theorem as_fin (C : as_C π σ) (k0 : 0 ≤ k) (k1 : k < π.1 42) (I : as_LI π σ (σ.2 36) k τ) {τ1 τ2 ρ : fb_S} (b : as_B π σ (σ.2 36) k τ τ1) (fr : fr_a [31, 33, 34] [104, 106, 107] σ τ2) (e1 : τ2.1 = τ1.1) (e31 : τ2.2 31 = τ1.2 31) (e33 : τ2.2 33 = τ1.2 33) (e34 : ∀ j, j ≠ k → τ2.2 34 j = τ1.2 34 j) (e34k : (π.2 17 k = 11 ∨ π.2 17 k = 12) → τ2.2 34 k = ly_b π (σ.2 36) k) (c : as_cx τ2 (π.2 16 k) ρ (as_it τ1 (π.2 16 k) k)) : as_LI π σ (σ.2 36) (k + 1) ρ := by
  obtain ⟨hP, hg, hpg, hF, hL, hA, hT⟩ := C
  obtain ⟨i1, i2, i3, i4, i5, i6, i7⟩ := I
  obtain ⟨b1, b2, b3, b4, b5, b6, b7, b8⟩ := b
  have hk := iv_k hP k0 k1
  have hk16 : π.2 16 k < 6 := by omega
  have g1 : pg π τ1 := hpg.fr as_okL b1
  have hF1 : iv_Fr π τ1 := iv_Fr_fr hF b1 (by simp) (by omega)
  have L1 : τ1.2 36 = σ.2 36 := b1.2 36 (by simp)
  have eit := as_itp hP hg.2.2.1 g1 hF1 k0 k1
  rw [as_posp (L := σ.2 36) g1 hF1 hk.1 hk16 b2 b3, L1] at eit
  rw [eit] at c
  have hs := c.S
  obtain ⟨⟨c1, c2, c3, c4, c5⟩, -⟩ := c
  rw [e1, b2, b3] at c2
  rw [e1, b3] at c3
  rw [← ly_a_s k0] at c2
  have r33 : ∀ j, ρ.2 33 j = if j = k then ly_a π (σ.2 36) k else τ.2 33 j := by
    intro j
    rw [c1.2 33 (by simp), e33]
    exact b6 j
  refine ⟨fr_tr fr (fr_up c1 (by simp) (by simp)), c2, fun _ => ⟨?_, ?_⟩, fun j j0 j1 => ?_, fun j j1 => ?_, fun j j0 j1 ho => ?_, fun old => ?_⟩
  · rw [c3, ← ly_o_s k0]
  · unfold as_S at hs; exact hs.2
  · rw [r33]
    split
    · next e => rw [e]
    · exact i4 j j0 (by omega)
  · rw [r33, if_neg (by omega)]; exact i5 j (by omega)
  · rw [c1.2 34 (by simp)]
    by_cases e : j = k
    · rw [e]; exact e34k (e ▸ ho)
    · rw [e34 j e, b7]; exact i6 j j0 (by omega) ho
  · have all : ∀ j, 0 ≤ j → j < π.1 42 → τ1.2 33 j = ly_a π (σ.2 36) j := by
      intro j j0 j1
      rw [b6]
      split
      · next e => rw [e]
      · by_cases lt : j < k
        · exact i4 j j0 lt
        · rw [i5 j (by omega)]; exact old j j0 j1
    have ec : ly_it π k (τ1.2 33 (ly_gi π k)) (σ.2 36 k) (ly_b π (σ.2 36) k) = ly_c π (σ.2 36) k := by
      unfold ly_c
      by_cases ho : π.2 17 k = 10 ∨ π.2 17 k = 11 ∨ π.2 17 k = 12 ∨ π.2 17 k = 13
      · have := ly_gi_in hP hg k0 k1 ho
        rw [all _ this.1 this.2]
      · unfold ly_it
        exact it_in_a ho
    rw [ec] at c5
    refine ly_bt_s (i7 old) k0 (fun j j0 j1 => ?_) (fun i x hx hm => ?_)
    · rw [c4 j j0 (by rw [e1, b2]; exact j1), e31, b8]
    · have := c5 i x (by rw [e1, b3]; exact hx) (by rw [e1, b2]; exact hm)
      rw [e1, b2] at this
      exact this
theorem as_step (C : as_C π σ) (k0 : 0 ≤ k) (k1 : k < π.1 42) (I : as_LI π σ (σ.2 36) k τ) {τ1 : fb_S} (b : as_B π σ (σ.2 36) k τ τ1) {x y w : Int} (ex : x = π.2 18 k) (ey : y = π.2 19 k) (ew : w = π.2 20 k) (kk : ∀ ρ, as_LI π σ (σ.2 36) (k + 1) ρ → Q 0 ρ) : fb_V E fb_As_emitInstruction 0 [.inr 3, .inl k, .inl x, .inl y, .inl w] [] τ1 Q := by
  have C' := C
  have b' := b
  obtain ⟨hP, hg, hpg, hF, hL, hA, hT⟩ := C
  obtain ⟨i1, i2, i3, i4, i5, i6, i7⟩ := id I
  obtain ⟨b1, b2, b3, b4, b5, b6, b7, b8⟩ := b
  have hk := iv_k hP k0 k1
  have hk16 : π.2 16 k < 6 := by omega
  have g1 : pg π τ1 := hpg.fr as_okL b1
  have hF1 : iv_Fr π τ1 := iv_Fr_fr hF b1 (by simp) (by omega)
  have hab := ly_a_b (π := π) (L := σ.2 36) k0
  rw [ex, ey, ew, ← g1.a 18 (by omega), ← g1.a 19 (by omega), ← g1.a 20 (by omega)]
  have hAP : as_P τ1 (π.2 16 k) := by
    refine ⟨g1.P hP, b5, by rw [g1.2.1]; exact hk.1, fun g v g0 g1' v0 v1 => ?_⟩
    rw [g1.2.1] at g1'
    rw [g1.a 13 (by omega)] at v1
    have g6 : g < 6 := by omega
    rw [hF1.2 g v g0 g1' v0 v1, g1.z g0 g6]
    have h1 := iv_pl_in hP g0 g6 v0 v1
    have h2 := hg.2.2.2.2 g g0 g1'
    have h3 := iv_bs_0 hP g
    omega
  apply ct_instr (f := π.2 16 k) ⟨by omega, b4⟩ hAP k (by rw [g1.2.2.1]; omega) (by rw [g1.a 16 (by omega)])
  · intro q
    rw [g1.a 17 (by omega)] at q
    rw [g1.tg, g1.a 15 (by omega), g1.a 16 (by omega)]
    exact hg.2.1 k k0 k1 q
  · intro q
    rw [g1.a 17 (by omega)] at q
    rw [g1.a 18 (by omega), g1.2.1]
    exact hg.2.2.1 k k0 k1 q
  · intro j j0 j1
    rw [b6]
    split
    · omega
    · by_cases lt : j < k
      · rw [i4 j j0 lt]
        have := ly_a_b (π := π) (L := σ.2 36) j0
        omega
      · rw [i5 j (by omega)]; exact hA j j0 j1
  · rw [b1.2 36 (by simp)]; exact hL k k0 (by omega)
  · intro g g0 g1'
    rw [g1.2.1] at g1'
    rw [g1.a 15 (by omega)]
    exact (hg.1.2 g g0 g1').1
  · intro ho ρ c
    rw [g1.a 17 (by omega)] at ho
    exact kk ρ (as_fin C' k0 k1 I b' b1 rfl rfl rfl (fun _ _ => rfl) (fun q => absurd q ho) c)
  · intro ho ρ c
    have ep := as_posp (L := σ.2 36) g1 hF1 hk.1 hk16 b2 b3
    rw [g1.a 17 (by omega), g1.a 18 (by omega), g1.a 19 (by omega), ep] at c
    exact kk ρ (as_fin C' k0 k1 I b' (fr_sm b1 (by simp)) rfl (fb_ne (by decide)) (fb_ne (by decide)) (fun j hj => by rw [fb_at, if_neg hj]) (fun _ => by rw [fb_at, if_pos rfl]) c)
/-- a pass -/
theorem ct_emitProgram (C : as_C π σ) (kk : ∀ ρ, as_LI π σ (σ.2 36) (π.1 42) ρ → Q 0 ρ) : fb_V E fb_As_emitProgram 0 [.inr 3, .inr 999] [] σ Q := by
  have C' := C
  obtain ⟨hP, hg, hpg, hF, hL, hA, hT⟩ := C
  have hAA := hP.1
  unfold iv_A at hAA
  apply As_emitProgram_b0
  have loop := lp_st (P := fun v τ => fb_V E fb_As_emitProgram 7 [.inr 3, .inl v] [] τ Q) (I := fun v τ => as_LI π σ (σ.2 36) v τ) (N := π.1 42) ?_ ?_
  · refine loop 0 _ (by omega) (by omega) ⟨fr_sg (fr_rf _ _ _) (by decide), rfl, fun q => by omega, fun j j0 j1 => by omega, fun j j1 => rfl, fun j j0 j1 => by omega, fun old j j0 j1 => by omega⟩
  · intro k τ k0 k1 I ih
    obtain ⟨i1, i2, i3, i4, i5, i6, i7⟩ := id I
    have g : pg π τ := hpg.fr as_okL i1
    have hk := iv_k hP k0 k1
    have hG := hP.2.2.2.2.1 _ hk.1.1 hk.1.2
    have hb15 := hP.2.1 _ hk.1.1 (show π.2 16 k < 6 by omega)
    have e35 : τ.2 35 = σ.2 35 := i1.2 35 (by simp)
    have e16 : τ.2 16 k = π.2 16 k := by rw [g.a 16 (by omega)]
    have ha : ∀ s : fb_S, s.1 104 = τ.1 104 → s.1 106 = ly_i π (σ.2 36) k → (-1 ≤ s.1 106 ∧ s.1 106 < 512) → s.1 107 = π.2 16 k → s.2 = τ.2 → fr_a [31, 33, 34] [104, 106, 107] σ s → as_B π σ (σ.2 36) k τ (fb_sm s 33 k (τ.1 104)) := by
      intro s s1 s2 s3 s4 s5 s6
      refine ⟨fr_sm s6 (by decide), by rw [fb_sm1, s1, i2], s2, s3, s4, fun j => ?_, by rw [fb_ne (by decide), s5], by rw [fb_ne (by decide), s5]⟩
      rw [fb_at, s5, i2]
    have rst : ly_rs π k → as_B π σ (σ.2 36) k τ (fb_sm (fb_sg (fb_sg τ 107 (τ.2 16 k)) 106 (-1)) 33 k (τ.1 104)) := by
      intro hr
      refine ha _ rfl ?_ ?_ ?_ rfl (fr_sg (fr_sg i1 (by decide)) (by decide))
      · rw [ly_i_y hr]; rfl
      · rw [show (fb_sg (fb_sg τ 107 (τ.2 16 k)) 106 (-1)).1 106 = -1 from rfl]; omega
      · rw [← e16]; rfl
    have hgo : ∀ s, as_B π σ (σ.2 36) k τ s → fb_V E fb_As_emitInstruction 0 [.inr 3, .inl k, .inl (τ.2 18 k), .inl (τ.2 19 k), .inl (τ.2 20 k)] [] s (fun _ s7 => fb_V E fb_As_emitProgram 7 [.inr 3, .inl (k + 1)] [] s7 Q) :=
      fun s b => as_step C' k0 k1 I b (by rw [g.a 18 (by omega)]) (by rw [g.a 19 (by omega)]) (by rw [g.a 20 (by omega)]) (fun ρ h => ih ρ h)
    apply As_emitProgram_b7
    rw [g.2.2.1]
    refine ⟨by omega, by omega, fun q => by omega, fun _ => ⟨by omega, by rw [e16]; omega, by rw [e16, g.a 14 (by omega)]; omega, fun q => hgo _ (rst (Or.inl ?_)), fun q => ⟨?_, fun q2 => hgo _ ?_, fun q2 => hgo _ (rst (Or.inr ?_))⟩⟩⟩
    · rw [e16, g.a 14 (by omega)] at q; exact q
    · have := hT k k0 k1
      rw [e35]
      rcases iv_01_v this with e | e <;> omega
    · rw [e16, g.a 14 (by omega)] at q
      have nrs : ¬ ly_rs π k := by
        intro hr
        rcases hr with hr | hr
        · exact q hr
        · rw [e35, (iv_01_zero (hT k k0 k1))] at q2
          exact q2 hr
      have kpos : 0 < k := by
        by_cases e : k = 0
        · exfalso; apply q; omega
        · omega
      obtain ⟨o1, o2⟩ := i3 kpos
      refine ha _ rfl ?_ o2 ?_ rfl (fr_sg i1 (by decide))
      · rw [ly_i_n nrs]; exact o1
      · rw [← e16]; rfl
    · rw [e35] at q2
      have := hT k k0 k1
      exact (iv_01_one this).mp (by rcases iv_01_v this with e | e <;> omega)
  · intro τ I
    have g : pg π τ := hpg.fr as_okL I.1
    apply As_emitProgram_b7
    rw [g.2.2.1]
    exact ⟨by omega, by omega, fun _ => kk τ I, fun q => by omega⟩
end PASS
