/-! the program, in the class and in the reference -/
def iv_z (σ : fb_S) (f v : Int) : Int := if 0 ≤ v ∧ v < σ.2 13 f then σ.2 (7 + f.toNat) v else 0
theorem iv_sz_z {σ : fb_S} {f v : Int} (h0 : 0 ≤ f) (h1 : f < σ.1 41) : iv_sz σ f v = iv_z σ f v := by
  unfold iv_sz iv_z
  grind
abbrev iv_sc (z : Int → Int) (v : Int) : Prop := z v = 1 ∨ z v = 2
/-- instruction op a b c may stand where z gives the variables' sizes -/
def iv_f0 (z : Int → Int) (op a b c : Int) : Prop :=
  (0 ≤ op ∧ op ≤ 15) ∧ (-2147483648 ≤ a ∧ a < 2147483648) ∧ (-2147483648 ≤ b ∧ b < 2147483648) ∧ (-2147483648 ≤ c ∧ c < 2147483648) ∧
  (op = 0 → iv_sc z a ∧ 0 ≤ b ∧ b ≤ 65535) ∧ (op = 1 → iv_sc z a ∧ iv_sc z b) ∧ (2 ≤ op ∧ op ≤ 6 → iv_sc z a ∧ iv_sc z b ∧ iv_sc z c) ∧ (op = 7 → iv_sc z a) ∧
  (op = 8 → iv_sc z a ∧ 3 ≤ z b ∧ z c = 1) ∧ (op = 9 → 3 ≤ z a ∧ z b = 1 ∧ iv_sc z c) ∧ (op = 11 → iv_sc z a) ∧ (op = 12 → iv_sc z a ∧ iv_sc z b) ∧ (op = 13 → iv_sc z b ∧ iv_sc z c) ∧ (op = 14 → iv_sc z a) ∧ (op = 15 → iv_sc z a)
abbrev iv_fi (σ : fb_S) (f op a b c : Int) : Prop := iv_f0 (iv_z σ f) op a b c
def iv_A (σ : fb_S) : Prop := (0 ≤ σ.1 41 ∧ σ.1 41 ≤ 6) ∧ (0 ≤ σ.1 42 ∧ σ.1 42 ≤ 60) ∧ σ.1 160 = σ.1 41 ∧ σ.1 161 = σ.1 42
def iv_B (σ : fb_S) : Prop := ∀ f, 0 ≤ f → f < 6 → (0 ≤ σ.2 13 f ∧ σ.2 13 f ≤ 6) ∧ σ.2 40 f = σ.2 13 f ∧ (0 ≤ σ.2 15 f ∧ σ.2 15 f ≤ 24) ∧ σ.2 41 f = σ.2 15 f ∧ (σ.1 41 ≤ f → σ.2 13 f = 0 ∧ σ.2 15 f = 0)
def iv_Cc (σ : fb_S) : Prop := ∀ f v, 0 ≤ f → f < 6 → 0 ≤ v → v < σ.2 13 f → (1 ≤ σ.2 (7 + f.toNat) v ∧ σ.2 (7 + f.toNat) v ≤ 8) ∧ σ.2 42 (6 * f + v) = σ.2 (7 + f.toNat) v
def iv_D (σ : fb_S) : Prop := (σ.1 41 = 0 → σ.1 42 = 0) ∧ (0 < σ.1 41 → σ.2 14 0 = 0) ∧ (∀ f, 0 ≤ f → f + 1 < σ.1 41 → σ.2 14 (f + 1) = σ.2 14 f + σ.2 15 f) ∧ (0 < σ.1 41 → σ.1 42 = σ.2 14 (σ.1 41 - 1) + σ.2 15 (σ.1 41 - 1))
def iv_G (σ : fb_S) : Prop := ∀ f, 0 ≤ f → f < σ.1 41 → 0 ≤ σ.2 14 f ∧ σ.2 14 f + σ.2 15 f ≤ σ.1 42
def iv_F (σ : fb_S) : Prop := ∀ k, 0 ≤ k → k < σ.1 42 → (0 ≤ σ.2 16 k ∧ σ.2 16 k < σ.1 41) ∧ σ.2 14 (σ.2 16 k) ≤ k ∧ k < σ.2 14 (σ.2 16 k) + σ.2 15 (σ.2 16 k)
def iv_Ee (σ : fb_S) : Prop := ∀ f i, 0 ≤ f → f < σ.1 41 → 0 ≤ i → i < σ.2 15 f → σ.2 16 (σ.2 14 f + i) = f ∧ σ.2 43 (24 * f + i) = σ.2 17 (σ.2 14 f + i) ∧ σ.2 44 (24 * f + i) = σ.2 18 (σ.2 14 f + i) ∧ σ.2 45 (24 * f + i) = σ.2 19 (σ.2 14 f + i) ∧ σ.2 46 (24 * f + i) = σ.2 20 (σ.2 14 f + i) ∧ iv_fi σ f (σ.2 17 (σ.2 14 f + i)) (σ.2 18 (σ.2 14 f + i)) (σ.2 19 (σ.2 14 f + i)) (σ.2 20 (σ.2 14 f + i))
/-- the program relation -/
def iv_P (σ : fb_S) : Prop := iv_A σ ∧ iv_B σ ∧ iv_Cc σ ∧ iv_D σ ∧ iv_G σ ∧ iv_F σ ∧ iv_Ee σ
/-- the cells that a program lives in -/
def iv_Pcell (a : Nat) : Prop := (7 ≤ a ∧ a ≤ 20) ∨ (40 ≤ a ∧ a ≤ 46)
theorem iv_z_same {σ σ' : fb_S} (h : ∀ a, iv_Pcell a → σ'.2 a = σ.2 a) {f v : Int} (h0 : 0 ≤ f) (h6 : f < 6) : iv_z σ' f v = iv_z σ f v := by
  unfold iv_z
  rw [h 13 (Or.inl ⟨by omega, by omega⟩), h (7 + f.toNat) (Or.inl ⟨by omega, by omega⟩)]
theorem iv_fi_same {σ σ' : fb_S} (h : ∀ a, iv_Pcell a → σ'.2 a = σ.2 a) {f op a b c : Int} (h0 : 0 ≤ f) (h6 : f < 6) (hf : iv_fi σ f op a b c) : iv_fi σ' f op a b c := by
  have e : iv_z σ' f = iv_z σ f := funext (fun v => iv_z_same h h0 h6)
  unfold iv_fi
  rw [e]
  exact hf
/-- a state that has the same program -/
theorem iv_P_same {σ σ' : fb_S} (hP : iv_P σ) (h : ∀ a, iv_Pcell a → σ'.2 a = σ.2 a) (h1 : σ'.1 41 = σ.1 41) (h2 : σ'.1 42 = σ.1 42) (h3 : σ'.1 160 = σ.1 160) (h4 : σ'.1 161 = σ.1 161) : iv_P σ' := by
  obtain ⟨hA, hB, hC, hD, hG, hF, hE⟩ := hP
  have e13 := h 13 (Or.inl ⟨by omega, by omega⟩)
  have e14 := h 14 (Or.inl ⟨by omega, by omega⟩)
  have e15 := h 15 (Or.inl ⟨by omega, by omega⟩)
  have e16 := h 16 (Or.inl ⟨by omega, by omega⟩)
  have e17 := h 17 (Or.inl ⟨by omega, by omega⟩)
  have e18 := h 18 (Or.inl ⟨by omega, by omega⟩)
  have e19 := h 19 (Or.inl ⟨by omega, by omega⟩)
  have e20 := h 20 (Or.inl ⟨by omega, by omega⟩)
  have e40 := h 40 (Or.inr ⟨by omega, by omega⟩)
  have e41 := h 41 (Or.inr ⟨by omega, by omega⟩)
  have e42 := h 42 (Or.inr ⟨by omega, by omega⟩)
  have e43 := h 43 (Or.inr ⟨by omega, by omega⟩)
  have e44 := h 44 (Or.inr ⟨by omega, by omega⟩)
  have e45 := h 45 (Or.inr ⟨by omega, by omega⟩)
  have e46 := h 46 (Or.inr ⟨by omega, by omega⟩)
  refine ⟨?_, ?_, ?_, ?_, ?_, ?_, ?_⟩
  · unfold iv_A at *; rw [h1, h2, h3, h4]; exact hA
  · unfold iv_B at *; rw [h1, e13, e15, e40, e41]; exact hB
  · unfold iv_Cc at *
    intro f v h0 h6
    rw [h (7 + f.toNat) (Or.inl ⟨by omega, by omega⟩), e13, e42]
    exact hC f v h0 h6
  · unfold iv_D at *; rw [h1, h2, e14, e15]; exact hD
  · unfold iv_G at *; rw [h1, h2, e14, e15]; exact hG
  · unfold iv_F at *; rw [h1, h2, e14, e15, e16]; exact hF
  · unfold iv_Ee at *
    rw [h1, e14, e15, e16, e17, e18, e19, e20, e43, e44, e45, e46]
    intro f i h0 hf hi hc
    obtain ⟨a1, a2, a3, a4, a5, a6⟩ := hE f i h0 hf hi hc
    exact ⟨a1, a2, a3, a4, a5, iv_fi_same h h0 (by unfold iv_A at hA; omega) a6⟩
/-- function(): a new function on both sides -/
theorem iv_P_fun {σ : fb_S} (hP : iv_P σ) (h6 : σ.1 41 < 6) : iv_P (fb_sg (fb_sg (fb_sm σ 14 (σ.1 41) (σ.1 42)) 41 (σ.1 41 + 1)) 160 (σ.1 160 + 1)) := by
  obtain ⟨hA, hB, hC, hD, hG, hF, hE⟩ := hP
  generalize hs : fb_sg (fb_sg (fb_sm σ 14 (σ.1 41) (σ.1 42)) 41 (σ.1 41 + 1)) 160 (σ.1 160 + 1) = σ'
  have r41 : σ'.1 41 = σ.1 41 + 1 := by subst hs; rfl
  have r42 : σ'.1 42 = σ.1 42 := by subst hs; rfl
  have r160 : σ'.1 160 = σ.1 160 + 1 := by subst hs; rfl
  have r161 : σ'.1 161 = σ.1 161 := by subst hs; rfl
  have ro : ∀ a, a ≠ 14 → σ'.2 a = σ.2 a := by
    intro a ha
    subst hs
    funext j
    simp [fb_sg2, fb_sm2, ha]
  have r14 : ∀ j, σ'.2 14 j = if j = σ.1 41 then σ.1 42 else σ.2 14 j := by
    intro j
    subst hs
    simp [fb_sg2, fb_sm2]
  clear hs
  have rz : ∀ f v, f < 6 → iv_z σ' f v = iv_z σ f v := by
    intro f v h
    unfold iv_z
    rw [ro 13 (by decide), ro _ (by omega)]
  unfold iv_P
  unfold iv_A iv_B iv_Cc iv_D iv_G iv_F iv_Ee at *
  refine ⟨?_, ?_, ?_, ?_, ?_, ?_, ?_⟩
  · omega
  · intro f h0 h1
    have := hB f h0 h1
    rw [ro 13 (by decide), ro 15 (by decide), ro 40 (by decide), ro 41 (by decide), r41]
    omega
  · intro f v h0 h1
    rw [ro 13 (by decide), ro 42 (by decide), ro (7 + f.toNat) (by omega)]
    exact hC f v h0 h1
  · rw [r41, r42]
    refine ⟨by omega, fun _ => ?_, fun f h0 h1 => ?_, fun _ => ?_⟩
    · rw [r14]; split
      · omega
      · exact hD.2.1 (by omega)
    · rw [r14 (f + 1), r14 f, ro 15 (by decide), if_neg (show ¬ f = σ.1 41 by omega)]
      by_cases e : f + 1 = σ.1 41
      · have := hD.2.2.2 (by omega)
        have e2 : f = σ.1 41 - 1 := by omega
        rw [if_pos e, e2]; exact this
      · rw [if_neg e]; exact hD.2.2.1 f h0 (by omega)
    · have e : σ.1 41 + 1 - 1 = σ.1 41 := by omega
      rw [e, r14, if_pos rfl, ro 15 (by decide)]
      have := (hB (σ.1 41) (by omega) (by omega)).2.2.2.2 (by omega)
      omega
  · intro f h0 h1
    rw [r14, ro 15 (by decide), r42]
    split
    · have := (hB f h0 (by omega)).2.2.2.2 (by omega)
      omega
    · exact hG f h0 (by omega)
  · intro k h0 h1
    rw [r42] at h1
    have := hF k h0 h1
    rw [ro 16 (by decide), r14, ro 15 (by decide), r41, if_neg (by omega)]
    omega
  · intro f i h0 h1 h2 h3
    rw [ro 15 (by decide)] at h3
    rw [r14]
    by_cases e : f = σ.1 41
    · have := (hB f h0 (by omega)).2.2.2.2 (by omega)
      omega
    · rw [if_neg e, ro 16 (by decide), ro 43 (by decide), ro 44 (by decide), ro 45 (by decide), ro 46 (by decide), ro 17 (by decide), ro 18 (by decide), ro 19 (by decide), ro 20 (by decide)]
      obtain ⟨a1, a2, a3, a4, a5, a6⟩ := hE f i h0 (by omega) h2 h3
      refine ⟨a1, a2, a3, a4, a5, ?_⟩
      have e : iv_z σ' f = iv_z σ f := funext (fun v => rz f v (by omega))
      unfold iv_fi
      rw [e]
      exact a6
/-- the words of a change on both sides: code dropped, run dropped -/
def iv_drop (σ : fb_S) : fb_S := fb_sg (fb_sg (fb_sg (fb_sg σ 4 0) 133 (-1)) 134 0) 135 0
def iv_chg (σ : fb_S) : fb_S := fb_sg (fb_sg σ 169 0) 182 0
theorem ct_dropCode {E : fb_E} {σ : fb_S} {Q : Int → fb_S → Prop} (h : Q 0 (iv_drop σ)) : fb_V E fb_Fb_dropCode 0 [.inr 0] [] σ Q := by
  apply Fb_dropCode_b0
  apply Po_drop_b0
  exact h
theorem ct_accepted {E : fb_E} {σ : fb_S} {Q : Int → fb_S → Prop} (r : Int) (hr : -2147483648 ≤ r ∧ r < 2147483648) (h1 : r = -1 → Q r σ) (h2 : ¬ r = -1 → Q r (iv_drop σ)) : fb_V E fb_Fb_accepted 0 [.inr 0, .inl r] [] σ Q := by
  apply Fb_accepted_b0
  exact ⟨hr, h1, fun e => ct_dropCode (h2 e)⟩
/-- function() on both sides -/
theorem ct_function {E : fb_E} {σ : fb_S} {Q : Int → fb_S → Prop} (hP : iv_P σ) (h0 : ¬ σ.1 41 < 6 → Q (-1) σ) (h1 : σ.1 41 < 6 → Q (σ.1 41) (iv_drop (fb_sg (fb_sm σ 14 (σ.1 41) (σ.1 42)) 41 (σ.1 41 + 1)))) : fb_V E fb_Fb_function 0 [.inr 0] [] σ Q := by
  have hA := hP.1
  unfold iv_A at hA
  apply Fb_function_b0
  apply Pr_addFunction_b0
  refine ⟨by omega, fun h => ⟨by omega, ?_⟩, fun h => ?_⟩
  · rw [show σ.1 41 + 1 - 1 = σ.1 41 by omega]
    exact ct_accepted _ (by omega) (fun e => by omega) (fun _ => h1 h)
  · exact ct_accepted _ (by omega) (fun _ => h0 h) (fun e => absurd rfl e)
theorem cm_function {E : fb_E} {σ : fb_S} {Q : Int → fb_S → Prop} (h6 : 0 ≤ σ.1 160 ∧ σ.1 160 ≤ 6) (h0 : ¬ σ.1 160 < 6 → Q (-1) σ) (h1 : σ.1 160 < 6 → Q (σ.1 160) (fb_sg (iv_chg σ) 160 (σ.1 160 + 1))) : fb_V E fb_Mo_function 0 [.inr 5] [] σ Q := by
  apply Mo_function_b0
  refine ⟨by omega, fun h => ?_, fun h => h0 (by omega)⟩
  apply Mo_change_b0
  show Q (σ.1 160 + 1 - 1) (fb_sg (iv_chg σ) 160 (σ.1 160 + 1))
  rw [show σ.1 160 + 1 - 1 = σ.1 160 by omega]
  exact h1 (by omega)
