/-! the relation behind an op on both sides -/
theorem fb_ne {σ : fb_S} {k : Nat} {i v : Int} {a : Nat} (h : a ≠ k) : (fb_sm σ k i v).2 a = σ.2 a := by
  funext j
  rw [fb_sm2, if_neg (fun q => h q.1)]
theorem fb_at (σ : fb_S) (k : Nat) (i v j : Int) : (fb_sm σ k i v).2 k j = if j = i then v else σ.2 k j := by
  rw [fb_sm2]
  by_cases h : j = i
  · rw [if_pos ⟨rfl, h⟩, if_pos h]
  · rw [if_neg (fun q => h q.2), if_neg h]
theorem fb_a2 (σ : fb_S) (k : Nat) (i v : Int) (a : Nat) (j : Int) : (fb_sm σ k i v).2 a j = if a = k ∧ j = i then v else σ.2 a j := rfl
theorem iv_drop2 (σ : fb_S) : (iv_drop σ).2 = σ.2 := rfl
theorem iv_chg2 (σ : fb_S) : (iv_chg σ).2 = σ.2 := rfl
theorem iv_P_op {σ τ : fb_S} (hP : iv_P σ) {f n t op a b c : Int} (hf : f = σ.1 41 - 1) (h0 : 0 ≤ f) (hn : n = σ.2 15 f) (hn24 : n < 24) (ht : t = σ.1 42) (ht60 : t < 60) (hfi : iv_fi σ f op a b c)
    (r41 : τ.1 41 = σ.1 41) (r42 : τ.1 42 = t + 1) (r160 : τ.1 160 = σ.1 160) (r161 : τ.1 161 = t + 1)
    (r15 : ∀ j, τ.2 15 j = if j = f then n + 1 else σ.2 15 j) (rl : ∀ j, τ.2 41 j = if j = f then n + 1 else σ.2 41 j)
    (r16 : ∀ j, τ.2 16 j = if j = t then f else σ.2 16 j) (r17 : ∀ j, τ.2 17 j = if j = t then op else σ.2 17 j) (r18 : ∀ j, τ.2 18 j = if j = t then a else σ.2 18 j) (r19 : ∀ j, τ.2 19 j = if j = t then b else σ.2 19 j) (r20 : ∀ j, τ.2 20 j = if j = t then c else σ.2 20 j)
    (r43 : ∀ j, τ.2 43 j = if j = 24 * f + n then op else σ.2 43 j) (r44 : ∀ j, τ.2 44 j = if j = 24 * f + n then a else σ.2 44 j) (r45 : ∀ j, τ.2 45 j = if j = 24 * f + n then b else σ.2 45 j) (r46 : ∀ j, τ.2 46 j = if j = 24 * f + n then c else σ.2 46 j)
    (ro : ∀ a, (7 ≤ a ∧ a ≤ 14) ∨ a = 40 ∨ a = 42 → τ.2 a = σ.2 a) : iv_P τ := by
  obtain ⟨hA, hB, hC, hD, hG, hF, hE⟩ := hP
  have h6 : f < 6 := by unfold iv_A at hA; omega
  have hz : ∀ g, 0 ≤ g → g < 6 → iv_z τ g = iv_z σ g := by
    intro g g0 g6
    funext v
    unfold iv_z
    rw [ro 13 (by omega), ro (7 + g.toNat) (by omega)]
  have e13 := ro 13 (by omega)
  have e14 := ro 14 (by omega)
  have e40 := ro 40 (by omega)
  have e42 := ro 42 (by omega)
  unfold iv_P
  unfold iv_A iv_B iv_Cc iv_D iv_G iv_F iv_Ee at *
  have hDl := hD.2.2.2 (by omega)
  rw [← hf, ← hn] at hDl
  rw [r41, r42, r160, r161, e13, e14, e40, e42]
  refine ⟨by omega, ?_, ?_, ?_, ?_, ?_, ?_⟩
  · intro g g0 g6
    have := hB g g0 g6
    rw [r15, rl]
    by_cases e : g = f
    · subst e; rw [if_pos rfl, if_pos rfl]; omega
    · rw [if_neg e, if_neg e]; exact this
  · intro g w g0 g6
    rw [ro (7 + g.toNat) (by omega)]
    exact hC g w g0 g6
  · refine ⟨by omega, hD.2.1, fun g g0 g1 => ?_, fun _ => ?_⟩
    · rw [r15, if_neg (by omega)]
      exact hD.2.2.1 g g0 g1
    · rw [r15, ← hf, if_pos rfl]; omega
  · intro g g0 g1
    have := hG g g0 g1
    rw [r15]
    by_cases e : g = f
    · subst e; rw [if_pos rfl]; omega
    · rw [if_neg e]; omega
  · intro k k0 k1
    rw [r16]
    by_cases e : k = t
    · have := hG f h0 (by omega)
      have := hB f h0 h6
      rw [if_pos e, r15, if_pos rfl]; omega
    · have := hF k k0 (by omega)
      rw [if_neg e, r15]
      by_cases e2 : σ.2 16 k = f
      · rw [e2, if_pos rfl]; rw [e2] at this; omega
      · rw [if_neg e2]; omega
  · intro g i g0 g1 i0 i1
    rw [r15] at i1
    have hgg := hG g g0 g1
    have hfg := hG f h0 (by omega)
    have hcf := hB f h0 h6
    have hcg := hB g g0 (by omega)
    unfold iv_fi
    rw [hz g g0 (by omega), r16, r17, r18, r19, r20, r43, r44, r45, r46]
    by_cases e : g = f
    · subst e
      rw [if_pos rfl] at i1
      by_cases hi : i = n
      · have k1 : σ.2 14 g + i = t := by omega
        have k2 : 24 * g + i = 24 * g + n := by omega
        simp only [k1, k2, if_true]
        exact ⟨trivial, trivial, trivial, trivial, trivial, hfi⟩
      · have k1 : ¬ σ.2 14 g + i = t := by omega
        have k2 : ¬ 24 * g + i = 24 * g + n := by omega
        simp only [k1, k2, if_false]
        exact hE g i g0 g1 i0 (by omega)
    · rw [if_neg e] at i1
      have hlt : σ.2 14 g + i < σ.1 42 := by omega
      have k1 : ¬ σ.2 14 g + i = t := by omega
      have k2 : ¬ 24 * g + i = 24 * f + n := by omega
      simp only [k1, k2, if_false]
      exact hE g i g0 g1 i0 i1
/-- the whole relation: program; code dropped or not; run dropped or not; the last two are filled in later parts -/
def iv_idle (σ : fb_S) : Prop := σ.1 4 = 0 ∧ σ.1 169 = 0 ∧ σ.1 133 = -1 ∧ σ.1 134 = 0 ∧ σ.1 135 = 0 ∧ σ.1 182 = 0
/-- function(): one side behind the other -/
theorem pr_function {E : fb_E} {σ : fb_S} {Q : Int → Int → fb_S → Prop} (hP : iv_P σ) (h0 : Q (-1) (-1) σ) (h1 : ∀ r τ, iv_P τ → iv_idle τ → (τ.2 33 = σ.2 33 ∧ τ.2 50 = σ.2 50) → Q r r τ) : fb_V E fb_Fb_function 0 [.inr 0] [] σ (fun r s => fb_V E fb_Mo_function 0 [.inr 5] [] s (fun r2 s2 => Q r r2 s2)) := by
  have hA := hP.1
  unfold iv_A at hA
  apply ct_function hP
  · intro h
    exact cm_function (by omega) (fun _ => h0) (fun h2 => by omega)
  · intro h
    apply cm_function
    · show 0 ≤ σ.1 160 ∧ σ.1 160 ≤ 6
      omega
    · intro h2
      exact absurd (show σ.1 160 < 6 by omega) h2
    · intro _
      show Q (σ.1 41) (σ.1 160) _
      rw [hA.2.2.1]
      refine h1 (σ.1 41) _ (iv_P_same (iv_P_fun hP h) ?_ rfl rfl ?_ rfl) ⟨rfl, rfl, rfl, rfl, rfl, rfl⟩ ⟨?_, ?_⟩
      · intro a _
        rfl
      · rfl
      · show (fb_sm σ 14 (σ.1 41) (σ.1 42)).2 33 = σ.2 33
        exact fb_ne (by decide)
      · show (fb_sm σ 14 (σ.1 41) (σ.1 42)).2 50 = σ.2 50
        exact fb_ne (by decide)
theorem pr_variable {E : fb_E} {σ : fb_S} {Q : Int → Int → fb_S → Prop} (x : Int) (hx : -2147483648 ≤ x ∧ x < 2147483648) (hP : iv_P σ) (h0 : Q (-1) (-1) σ) (h1 : ∀ r τ, iv_P τ → iv_idle τ → (τ.2 33 = σ.2 33 ∧ τ.2 50 = σ.2 50) → Q r r τ) : fb_V E fb_Fb_variable 0 [.inr 0, .inl x] [] σ (fun r s => fb_V E fb_Mo_variable 0 [.inr 5, .inl x, .inr 999] [] s (fun r2 s2 => Q r r2 s2)) := by
  have hA := hP.1
  have hM := iv_M_of hP
  have hB := hP.2.1
  unfold iv_A at hA
  apply ct_variable x hx hP
  · intro h
    apply cm_variable x hx hM.1 (fun f f0 f6 => (hM.2.2.1 f f0 f6).1)
    · exact fun _ => h0
    · intro h2
      have := hB (σ.1 41 - 1) (by omega) (by omega)
      rw [hA.2.2.1] at h2
      exact absurd (by omega) h
  · intro h
    have hb := hB (σ.1 41 - 1) (by omega) (by omega)
    generalize hs : iv_drop (fb_sm (fb_sm σ (7 + (σ.1 41 - 1).toNat) (σ.2 13 (σ.1 41 - 1)) x) 13 (σ.1 41 - 1) (σ.2 13 (σ.1 41 - 1) + 1)) = s
    have s160 : s.1 160 = σ.1 41 := by rw [← hA.2.2.1]; subst hs; rfl
    have s40 : s.2 40 = σ.2 40 := by
      subst hs; funext j
      show (fb_sm (fb_sm σ (7 + (σ.1 41 - 1).toNat) (σ.2 13 (σ.1 41 - 1)) x) 13 (σ.1 41 - 1) (σ.2 13 (σ.1 41 - 1) + 1)).2 40 j = _
      rw [fb_sm2, fb_sm2, if_neg (by omega), if_neg (by omega)]
    apply cm_variable x hx
    · rw [s160]; omega
    · rw [s40]; exact fun f f0 f6 => (hM.2.2.1 f f0 f6).1
    · intro h2
      rw [s160, s40, hb.2.1] at h2
      exact absurd h h2
    · intro _
      rw [s160, s40, hb.2.1]
      refine h1 _ _ (iv_P_var hP (f := σ.1 41 - 1) (v := σ.2 13 (σ.1 41 - 1)) (x := x) rfl (by omega) rfl (by omega) (by omega) ?_ ?_ ?_ ?_ ?_ ?_ ?_ ?_ ?_) ?_ ⟨?_, ?_⟩
      · subst hs; rfl
      · subst hs; rfl
      · subst hs; rfl
      · subst hs; rfl
      · intro j; subst hs
        rw [fb_ne (by decide), fb_ne (by decide), iv_chg2, iv_drop2, fb_at, fb_ne (by omega)]
      · intro j; subst hs
        rw [fb_at, fb_ne (by decide), iv_chg2, iv_drop2, fb_ne (by decide), fb_ne (by omega)]
      · intro a j a7 a12; subst hs
        rw [fb_ne (by omega), fb_ne (by omega), iv_chg2, iv_drop2, fb_ne (by omega), fb_a2]
      · intro j; subst hs
        rw [fb_ne (by decide), fb_at, iv_chg2, iv_drop2, fb_ne (by decide), fb_ne (by omega)]
      · intro a ha; subst hs
        rw [fb_ne (by omega), fb_ne (by omega), iv_chg2, iv_drop2, fb_ne (by omega), fb_ne (by omega)]
      · subst hs; exact ⟨rfl, rfl, rfl, rfl, rfl, rfl⟩
      · subst hs
        rw [fb_ne (by decide), fb_ne (by decide), iv_chg2, iv_drop2, fb_ne (by decide), fb_ne (by omega)]
      · subst hs
        rw [fb_ne (by decide), fb_ne (by decide), iv_chg2, iv_drop2, fb_ne (by decide), fb_ne (by omega)]
theorem pr_op {E : fb_E} {σ : fb_S} {Q : Int → Int → fb_S → Prop} (op a b c : Int) (ho : -2147483648 ≤ op ∧ op < 2147483648) (ha : -2147483648 ≤ a ∧ a < 2147483648) (hb : -2147483648 ≤ b ∧ b < 2147483648) (hc : -2147483648 ≤ c ∧ c < 2147483648) (hP : iv_P σ) (h0 : Q (-1) (-1) σ) (h1 : ∀ r τ, iv_P τ → iv_idle τ → (τ.2 33 = σ.2 33 ∧ τ.2 50 = σ.2 50) → Q r r τ) : fb_V E fb_Fb_op 0 [.inr 0, .inl op, .inl a, .inl b, .inl c] [] σ (fun r s => fb_V E fb_Mo_op 0 [.inr 5, .inl op, .inl a, .inl b, .inl c, .inr 999, .inr 999] [] s (fun r2 s2 => Q r r2 s2)) := by
  have hA := hP.1
  have hM := iv_M_of hP
  have hB := hP.2.1
  unfold iv_A at hA
  apply ct_op op a b c ho ha hb hc hP
  · intro h
    apply cm_op op a b c ho ha hb hc hM
    · exact fun _ => h0
    · intro h2
      have hb2 := hB (σ.1 41 - 1) (by omega) (by omega)
      rw [hA.2.2.1, hA.2.2.2, hb2.2.2.2.1, iv_mz_z hP (by omega) (by omega)] at h2
      exact absurd h2 h
  · intro h
    have hb2 := hB (σ.1 41 - 1) (by omega) (by omega)
    have hmz := iv_mz_z hP (f := σ.1 41 - 1) (by omega) (by omega)
    generalize hs : iv_op1 σ op a b c = s
    have s160 : s.1 160 = σ.1 41 := by rw [← hA.2.2.1]; subst hs; rfl
    have s161 : s.1 161 = σ.1 42 := by rw [← hA.2.2.2]; subst hs; rfl
    have so : ∀ a, a ≠ 15 → a ≠ 16 → a ≠ 17 → a ≠ 18 → a ≠ 19 → a ≠ 20 → s.2 a = σ.2 a := by
      intro a q1 q2 q3 q4 q5 q6
      subst hs
      unfold iv_op1
      rw [iv_drop2, fb_ne q1, fb_sg2, fb_ne q6, fb_ne q5, fb_ne q4, fb_ne q3, fb_ne q2]
    have s40 := so 40 (by decide) (by decide) (by decide) (by decide) (by decide) (by decide)
    have s41 := so 41 (by decide) (by decide) (by decide) (by decide) (by decide) (by decide)
    have s42 := so 42 (by decide) (by decide) (by decide) (by decide) (by decide) (by decide)
    have smz : iv_mz s (σ.1 41 - 1) = iv_mz σ (σ.1 41 - 1) := by
      funext v; unfold iv_mz; rw [s40, s42]
    apply cm_op op a b c ho ha hb hc
    · exact iv_M_same hM (by omega) (by omega) s40 s41 s42
    · intro h2
      rw [s160, s161, s41, hb2.2.2.2.1, smz, hmz] at h2
      exact absurd h h2
    · intro _
      rw [s160, s41, hb2.2.2.2.1]
      refine h1 _ _ (iv_P_op hP (f := σ.1 41 - 1) (n := σ.2 15 (σ.1 41 - 1)) (t := σ.1 42) (op := op) (a := a) (b := b) (c := c) rfl (by omega) rfl h.2.1 rfl h.2.2.1 h.2.2.2 ?_ ?_ ?_ ?_ ?_ ?_ ?_ ?_ ?_ ?_ ?_ ?_ ?_ ?_ ?_ ?_) ?_ ⟨?_, ?_⟩
      · subst hs; rfl
      · subst hs; rfl
      · subst hs; rfl
      · show s.1 161 + 1 = _; rw [s161]
      · intro j; unfold iv_op2; rw [s160, s41, hb2.2.2.2.1, fb_sg2, fb_ne (by decide), fb_ne (by decide), fb_ne (by decide), fb_ne (by decide), fb_ne (by decide), iv_chg2]; subst hs; unfold iv_op1; rw [iv_drop2, fb_at, fb_sg2, fb_ne (by decide), fb_ne (by decide), fb_ne (by decide), fb_ne (by decide), fb_ne (by decide)]
      · intro j; unfold iv_op2; rw [s160, s41, hb2.2.2.2.1, fb_sg2, fb_at, fb_ne (by decide), fb_ne (by decide), fb_ne (by decide), fb_ne (by decide), iv_chg2, s41]
      · intro j; unfold iv_op2; rw [fb_sg2, fb_ne (by decide), fb_ne (by decide), fb_ne (by decide), fb_ne (by decide), fb_ne (by decide), iv_chg2]; subst hs; unfold iv_op1; rw [iv_drop2, fb_ne (by decide), fb_sg2, fb_ne (by decide), fb_ne (by decide), fb_ne (by decide), fb_ne (by decide), fb_at]
      · intro j; unfold iv_op2; rw [fb_sg2, fb_ne (by decide), fb_ne (by decide), fb_ne (by decide), fb_ne (by decide), fb_ne (by decide), iv_chg2]; subst hs; unfold iv_op1; rw [iv_drop2, fb_ne (by decide), fb_sg2, fb_ne (by decide), fb_ne (by decide), fb_ne (by decide), fb_at, fb_ne (by decide)]
      · intro j; unfold iv_op2; rw [fb_sg2, fb_ne (by decide), fb_ne (by decide), fb_ne (by decide), fb_ne (by decide), fb_ne (by decide), iv_chg2]; subst hs; unfold iv_op1; rw [iv_drop2, fb_ne (by decide), fb_sg2, fb_ne (by decide), fb_ne (by decide), fb_at, fb_ne (by decide), fb_ne (by decide)]
      · intro j; unfold iv_op2; rw [fb_sg2, fb_ne (by decide), fb_ne (by decide), fb_ne (by decide), fb_ne (by decide), fb_ne (by decide), iv_chg2]; subst hs; unfold iv_op1; rw [iv_drop2, fb_ne (by decide), fb_sg2, fb_ne (by decide), fb_at, fb_ne (by decide), fb_ne (by decide), fb_ne (by decide)]
      · intro j; unfold iv_op2; rw [fb_sg2, fb_ne (by decide), fb_ne (by decide), fb_ne (by decide), fb_ne (by decide), fb_ne (by decide), iv_chg2]; subst hs; unfold iv_op1; rw [iv_drop2, fb_ne (by decide), fb_sg2, fb_at, fb_ne (by decide), fb_ne (by decide), fb_ne (by decide), fb_ne (by decide)]
      · intro j; unfold iv_op2; rw [s160, s41, hb2.2.2.2.1, fb_sg2, fb_ne (by decide), fb_ne (by decide), fb_ne (by decide), fb_ne (by decide), fb_at, iv_chg2, so 43 (by decide) (by decide) (by decide) (by decide) (by decide) (by decide)]
      · intro j; unfold iv_op2; rw [s160, s41, hb2.2.2.2.1, fb_sg2, fb_ne (by decide), fb_ne (by decide), fb_ne (by decide), fb_at, fb_ne (by decide), iv_chg2, so 44 (by decide) (by decide) (by decide) (by decide) (by decide) (by decide)]
      · intro j; unfold iv_op2; rw [s160, s41, hb2.2.2.2.1, fb_sg2, fb_ne (by decide), fb_ne (by decide), fb_at, fb_ne (by decide), fb_ne (by decide), iv_chg2, so 45 (by decide) (by decide) (by decide) (by decide) (by decide) (by decide)]
      · intro j; unfold iv_op2; rw [s160, s41, hb2.2.2.2.1, fb_sg2, fb_ne (by decide), fb_at, fb_ne (by decide), fb_ne (by decide), fb_ne (by decide), iv_chg2, so 46 (by decide) (by decide) (by decide) (by decide) (by decide) (by decide)]
      · intro a ha2; unfold iv_op2; rw [fb_sg2, fb_ne (by omega), fb_ne (by omega), fb_ne (by omega), fb_ne (by omega), fb_ne (by omega), iv_chg2, so a (by omega) (by omega) (by omega) (by omega) (by omega) (by omega)]
      · subst hs; exact ⟨rfl, rfl, rfl, rfl, rfl, rfl⟩
      · unfold iv_op2; rw [fb_sg2, fb_ne (by decide), fb_ne (by decide), fb_ne (by decide), fb_ne (by decide), fb_ne (by decide), iv_chg2, so 33 (by decide) (by decide) (by decide) (by decide) (by decide) (by decide)]
      · unfold iv_op2; rw [fb_sg2, fb_ne (by decide), fb_ne (by decide), fb_ne (by decide), fb_ne (by decide), fb_ne (by decide), iv_chg2, so 50 (by decide) (by decide) (by decide) (by decide) (by decide) (by decide)]
