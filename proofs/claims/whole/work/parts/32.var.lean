/-! variable() on both sides -/
theorem iv_sc_mono {z y : Int → Int} (h : ∀ w, z w ≠ 0 → y w = z w) {v : Int} (hv : iv_sc z v) : iv_sc y v := by
  unfold iv_sc at *
  rw [h v (by omega)]
  exact hv
theorem iv_f0_mono {z y : Int → Int} (h : ∀ w, z w ≠ 0 → y w = z w) {op a b c : Int} (hf : iv_f0 z op a b c) : iv_f0 y op a b c := by
  unfold iv_f0 at *
  obtain ⟨h1, h2, h3, h4, q0, q1, q2, q7, q8, q9, q11, q12, q13, q14, q15⟩ := hf
  refine ⟨h1, h2, h3, h4, fun e => ?_, fun e => ?_, fun e => ?_, fun e => iv_sc_mono h (q7 e), fun e => ?_, fun e => ?_, fun e => iv_sc_mono h (q11 e), fun e => ?_, fun e => ?_, fun e => iv_sc_mono h (q14 e), fun e => iv_sc_mono h (q15 e)⟩
  · exact ⟨iv_sc_mono h (q0 e).1, (q0 e).2⟩
  · exact ⟨iv_sc_mono h (q1 e).1, iv_sc_mono h (q1 e).2⟩
  · exact ⟨iv_sc_mono h (q2 e).1, iv_sc_mono h (q2 e).2.1, iv_sc_mono h (q2 e).2.2⟩
  · obtain ⟨a1, a2, a3⟩ := q8 e
    exact ⟨iv_sc_mono h a1, by rw [h b (by omega)]; exact a2, by rw [h c (by omega)]; exact a3⟩
  · obtain ⟨a1, a2, a3⟩ := q9 e
    exact ⟨by rw [h a (by omega)]; exact a1, by rw [h b (by omega)]; exact a2, iv_sc_mono h a3⟩
  · exact ⟨iv_sc_mono h (q12 e).1, iv_sc_mono h (q12 e).2⟩
  · exact ⟨iv_sc_mono h (q13 e).1, iv_sc_mono h (q13 e).2⟩
theorem iv_P_var {σ τ : fb_S} (hP : iv_P σ) {f v x : Int} (hf : f = σ.1 41 - 1) (h0 : 0 ≤ f) (hv : v = σ.2 13 f) (hv6 : v < 6) (hx : 1 ≤ x ∧ x ≤ 8)
    (r41 : τ.1 41 = σ.1 41) (r42 : τ.1 42 = σ.1 42) (r160 : τ.1 160 = σ.1 160) (r161 : τ.1 161 = σ.1 161)
    (r13 : ∀ j, τ.2 13 j = if j = f then v + 1 else σ.2 13 j) (r40 : ∀ j, τ.2 40 j = if j = f then v + 1 else σ.2 40 j)
    (r7 : ∀ a j, 7 ≤ a → a ≤ 12 → τ.2 a j = if a = 7 + f.toNat ∧ j = v then x else σ.2 a j) (rs : ∀ j, τ.2 42 j = if j = 6 * f + v then x else σ.2 42 j)
    (ro : ∀ a, (14 ≤ a ∧ a ≤ 20) ∨ a = 41 ∨ (43 ≤ a ∧ a ≤ 46) → τ.2 a = σ.2 a) : iv_P τ := by
  obtain ⟨hA, hB, hC, hD, hG, hF, hE⟩ := hP
  have h6 : f < 6 := by unfold iv_A at hA; omega
  have hz : ∀ g w, 0 ≤ g → g < 6 → iv_z σ g w ≠ 0 → iv_z τ g w = iv_z σ g w := by
    intro g w hg0 hg6 hne
    unfold iv_z at *
    rw [r13, r7 _ _ (by omega) (by omega)]
    have := (hB g hg0 hg6).1
    by_cases e : g = f
    · subst e
      rw [if_pos rfl]
      by_cases hw : 0 ≤ w ∧ w < σ.2 13 g
      · rw [if_pos (by omega), if_pos hw, if_neg (by omega)]
      · rw [if_neg hw] at hne; exact absurd rfl hne
    · rw [if_neg e, if_neg (show ¬ (7 + g.toNat = 7 + f.toNat ∧ w = v) by omega)]
  have e14 := ro 14 (by omega)
  have e15 := ro 15 (by omega)
  have e16 := ro 16 (by omega)
  have e17 := ro 17 (by omega)
  have e18 := ro 18 (by omega)
  have e19 := ro 19 (by omega)
  have e20 := ro 20 (by omega)
  have e41 := ro 41 (by omega)
  have e43 := ro 43 (by omega)
  have e44 := ro 44 (by omega)
  have e45 := ro 45 (by omega)
  have e46 := ro 46 (by omega)
  unfold iv_P
  unfold iv_A iv_B iv_Cc iv_D iv_G iv_F iv_Ee at *
  rw [r41, r42, r160, r161, e14, e15, e16, e17, e18, e19, e20, e41, e43, e44, e45, e46]
  refine ⟨hA, ?_, ?_, hD, hG, hF, ?_⟩
  · intro g g0 g6
    have := hB g g0 g6
    rw [r13, r40]
    by_cases e : g = f
    · subst e; rw [if_pos rfl, if_pos rfl]; omega
    · rw [if_neg e, if_neg e]; exact this
  · intro g w g0 g6 w0 w1
    rw [r13] at w1
    rw [r7 _ _ (by omega) (by omega), rs]
    by_cases e : g = f
    · subst e
      rw [if_pos rfl] at w1
      by_cases hw : w = v
      · rw [if_pos ⟨rfl, hw⟩, if_pos (by omega)]
        exact ⟨hx, rfl⟩
      · rw [if_neg (by omega), if_neg (by omega)]
        exact hC g w g0 g6 w0 (by omega)
    · rw [if_neg e] at w1
      have := hB g g0 g6
      have := hB f h0 h6
      rw [if_neg (by omega), if_neg (by omega)]
      exact hC g w g0 g6 w0 w1
  · intro g i g0 g1 i0 i1
    obtain ⟨a1, a2, a3, a4, a5, a6⟩ := hE g i g0 g1 i0 i1
    exact ⟨a1, a2, a3, a4, a5, iv_f0_mono (fun w hw => hz g w g0 (by omega) hw) a6⟩
theorem ct_variable {E : fb_E} {σ : fb_S} {Q : Int → fb_S → Prop} (x : Int) (hx : -2147483648 ≤ x ∧ x < 2147483648) (hP : iv_P σ)
    (h0 : ¬ (0 < σ.1 41 ∧ 1 ≤ x ∧ x ≤ 8 ∧ σ.2 13 (σ.1 41 - 1) < 6) → Q (-1) σ)
    (h1 : (0 < σ.1 41 ∧ 1 ≤ x ∧ x ≤ 8 ∧ σ.2 13 (σ.1 41 - 1) < 6) → Q (σ.2 13 (σ.1 41 - 1)) (iv_drop (fb_sm (fb_sm σ (7 + (σ.1 41 - 1).toNat) (σ.2 13 (σ.1 41 - 1)) x) 13 (σ.1 41 - 1) (σ.2 13 (σ.1 41 - 1) + 1)))) : fb_V E fb_Fb_variable 0 [.inr 0, .inl x] [] σ Q := by
  obtain ⟨hA, hB, -⟩ := hP
  unfold iv_A iv_B at *
  apply Fb_variable_b0
  apply Pr_addVariable_b0
  have no : ¬ (0 < σ.1 41 ∧ 1 ≤ x ∧ x ≤ 8 ∧ σ.2 13 (σ.1 41 - 1) < 6) → fb_V E fb_Fb_accepted 0 [.inr 0, .inl (-1)] [] σ (fun r3 s4 => Q r3 s4) := fun h => ct_accepted _ (by omega) (fun _ => h0 h) (fun e => absurd rfl e)
  refine ⟨by omega, fun h => no (by omega), fun h => ⟨hx, fun h2 => no (by omega), fun h2 => ⟨fun h3 => no (by omega), fun h3 => ?_⟩⟩⟩
  have hb := hB (σ.1 41 - 1) (by omega) (by omega)
  refine ⟨by omega, by omega, fun h4 => ⟨by omega, ?_⟩, fun h4 => no (by omega)⟩
  have e : (fb_sm σ (7 + (σ.1 41 - 1).toNat) (σ.2 13 (σ.1 41 - 1)) x).2 13 (σ.1 41 - 1) = σ.2 13 (σ.1 41 - 1) := by
    rw [fb_sm2, if_neg (by omega)]
  rw [e]
  exact ct_accepted _ (by omega) (fun e => by omega) (fun _ => h1 (by omega))
theorem cm_variable {E : fb_E} {σ : fb_S} {Q : Int → fb_S → Prop} (x : Int) (hx : -2147483648 ≤ x ∧ x < 2147483648) (h6 : 0 ≤ σ.1 160 ∧ σ.1 160 ≤ 6) (hv : ∀ f, 0 ≤ f → f < 6 → 0 ≤ σ.2 40 f ∧ σ.2 40 f ≤ 6)
    (h0 : ¬ (0 < σ.1 160 ∧ 1 ≤ x ∧ x ≤ 8 ∧ σ.2 40 (σ.1 160 - 1) < 6) → Q (-1) σ)
    (h1 : (0 < σ.1 160 ∧ 1 ≤ x ∧ x ≤ 8 ∧ σ.2 40 (σ.1 160 - 1) < 6) → Q (σ.2 40 (σ.1 160 - 1)) (fb_sm (fb_sm (iv_chg σ) 42 (6 * (σ.1 160 - 1) + σ.2 40 (σ.1 160 - 1)) x) 40 (σ.1 160 - 1) (σ.2 40 (σ.1 160 - 1) + 1))) : fb_V E fb_Mo_variable 0 [.inr 5, .inl x, .inr 999] [] σ Q := by
  apply Mo_variable_b0
  refine ⟨by omega, fun h => h0 (by omega), fun h => ⟨hx, fun h2 => h0 (by omega), fun h2 => ⟨fun h3 => h0 (by omega), fun h3 => ?_⟩⟩⟩
  have hb := hv (σ.1 160 - 1) (by omega) (by omega)
  refine ⟨by omega, by omega, fun h4 => ?_, fun h4 => h0 (by omega)⟩
  apply Mo_change_b0
  refine ⟨?_, ?_⟩
  · show 0 ≤ 6 * (σ.1 160 - 1) + σ.2 40 (σ.1 160 - 1) ∧ 6 * (σ.1 160 - 1) + σ.2 40 (σ.1 160 - 1) < 36
    omega
  · show Q (σ.2 40 (σ.1 160 - 1) + 1 - 1) (fb_sm (fb_sm (iv_chg σ) 42 (6 * (σ.1 160 - 1) + σ.2 40 (σ.1 160 - 1)) x) 40 (σ.1 160 - 1) (σ.2 40 (σ.1 160 - 1) + 1))
    rw [show σ.2 40 (σ.1 160 - 1) + 1 - 1 = σ.2 40 (σ.1 160 - 1) by omega]
    exact h1 (by omega)
