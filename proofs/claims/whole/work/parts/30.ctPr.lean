/-! contracts of Program, and of the reference's first calls -/
-- 41 functionCount, 42 total, 13 variableCounts, 14 firsts, 15 counts, 16 owners, 17 ops, 18 as, 19 bs, 20 cs, 7+f sizes[f]; reference: 160 functions, 161 instructions, 40 variables, 41 lines, 42 sizes, 43 what, 44 one, 45 two, 46 three
theorem ct_hasFunction {E : fb_E} {σ : fb_S} {Q : Int → fb_S → Prop} (f : Int) (hf : -2147483648 ≤ f ∧ f < 2147483648) (hfc : 0 ≤ σ.1 41 ∧ σ.1 41 ≤ 6) (h1 : 0 ≤ f ∧ f < σ.1 41 → Q 1 σ) (h0 : ¬ (0 ≤ f ∧ f < σ.1 41) → Q 0 σ) : fb_V E fb_Pr_hasFunction 0 [.inr 1, .inl f] [] σ Q := by
  apply Pr_hasFunction_b0
  grind
theorem ct_isScalar {E : fb_E} {σ : fb_S} {Q : Int → fb_S → Prop} (x : Int) (hf : -2147483648 ≤ x ∧ x < 2147483648) (h1 : x = 1 ∨ x = 2 → Q 1 σ) (h0 : ¬ (x = 1 ∨ x = 2) → Q 0 σ) : fb_V E fb_Pr_isScalar 0 [.inl x] [] σ Q := by
  apply Pr_isScalar_b0
  grind
/-- the size of variable v of function f, 0 where there is none -/
def iv_sz (σ : fb_S) (f v : Int) : Int := if 0 ≤ f ∧ f < σ.1 41 ∧ 0 ≤ v ∧ v < σ.2 13 f then σ.2 (7 + f.toNat) v else 0
theorem ct_sizeOf {E : fb_E} {σ : fb_S} {Q : Int → fb_S → Prop} (f v : Int) (hf : -2147483648 ≤ f ∧ f < 2147483648) (hv : -2147483648 ≤ v ∧ v < 2147483648) (hfc : 0 ≤ σ.1 41 ∧ σ.1 41 ≤ 6) (hvc : ∀ f, 0 ≤ f → f < 6 → 0 ≤ σ.2 13 f ∧ σ.2 13 f ≤ 6) (h : Q (iv_sz σ f v) σ) : fb_V E fb_Pr_sizeOf 0 [.inr 1, .inl f, .inl v, .inr 999] [] σ Q := by
  apply Pr_sizeOf_b0
  unfold iv_sz at h
  grind
theorem ct_hasTarget {E : fb_E} {σ : fb_S} {Q : Int → fb_S → Prop} (k : Int) (hk : 0 ≤ k ∧ k < 60) (ho : 0 ≤ σ.2 17 k ∧ σ.2 17 k ≤ 15) (h1 : σ.2 17 k = 10 ∨ σ.2 17 k = 11 ∨ σ.2 17 k = 12 → Q 1 σ) (h0 : ¬ (σ.2 17 k = 10 ∨ σ.2 17 k = 11 ∨ σ.2 17 k = 12) → Q 0 σ) : fb_V E fb_Pr_hasTarget 0 [.inr 1, .inl k] [] σ Q := by
  apply Pr_hasTarget_b0
  grind
/-- the target of instruction k -/
def iv_tg (σ : fb_S) (k : Int) : Int := if σ.2 17 k = 10 then σ.2 18 k else if σ.2 17 k = 11 then σ.2 19 k else σ.2 20 k
theorem ct_targetOf {E : fb_E} {σ : fb_S} {Q : Int → fb_S → Prop} (k : Int) (hk : 0 ≤ k ∧ k < 60) (ho : 0 ≤ σ.2 17 k ∧ σ.2 17 k ≤ 15) (h : Q (iv_tg σ k) σ) : fb_V E fb_Pr_targetOf 0 [.inr 1, .inl k] [] σ Q := by
  apply Pr_targetOf_b0
  unfold iv_tg at h
  grind
theorem ct_goalOf {E : fb_E} {σ : fb_S} {Q : Int → fb_S → Prop} (k : Int) (hk : 0 ≤ k ∧ k < 60) (ho : 0 ≤ σ.2 17 k ∧ σ.2 17 k ≤ 15) (hw : 0 ≤ σ.2 16 k ∧ σ.2 16 k < 6) (h : Q (σ.2 14 (σ.2 16 k) + iv_tg σ k) σ) : fb_V E fb_Pr_goalOf 0 [.inr 1, .inl k] [] σ Q := by
  apply Pr_goalOf_b0
  exact ⟨hk, hw, ct_targetOf k hk ho h⟩
theorem ct_hasInstruction {E : fb_E} {σ : fb_S} {Q : Int → fb_S → Prop} (f i : Int) (hf : -2147483648 ≤ f ∧ f < 2147483648) (hi : -2147483648 ≤ i ∧ i < 2147483648) (hfc : 0 ≤ σ.1 41 ∧ σ.1 41 ≤ 6) (hc : ∀ f, 0 ≤ f → f < 6 → 0 ≤ σ.2 15 f ∧ σ.2 15 f ≤ 24) (h1 : (0 ≤ f ∧ f < σ.1 41) ∧ 0 ≤ i ∧ i < σ.2 15 f → Q 1 σ) (h0 : ¬ ((0 ≤ f ∧ f < σ.1 41) ∧ 0 ≤ i ∧ i < σ.2 15 f) → Q 0 σ) : fb_V E fb_Pr_hasInstruction 0 [.inr 1, .inl f, .inl i] [] σ Q := by
  apply Pr_hasInstruction_b0
  apply ct_hasFunction f hf hfc <;> grind
/-- an argument suits a sort -/
def iv_su (σ : fb_S) (t x : Int) : Prop := (t = 1 → iv_sz σ (σ.1 41 - 1) x = 1 ∨ iv_sz σ (σ.1 41 - 1) x = 2) ∧ (t = 2 → iv_sz σ (σ.1 41 - 1) x = 1) ∧ (t = 3 → 2 < iv_sz σ (σ.1 41 - 1) x) ∧ (t = 4 → 0 ≤ x ∧ x ≤ 65535)
theorem ct_suits {E : fb_E} {σ : fb_S} {Q : Int → fb_S → Prop} (t x : Int) (ht : 0 ≤ t ∧ t ≤ 4) (hx : -2147483648 ≤ x ∧ x < 2147483648) (hfc : 0 ≤ σ.1 41 ∧ σ.1 41 ≤ 6) (hvc : ∀ f, 0 ≤ f → f < 6 → 0 ≤ σ.2 13 f ∧ σ.2 13 f ≤ 6) (hsz : 0 ≤ iv_sz σ (σ.1 41 - 1) x ∧ iv_sz σ (σ.1 41 - 1) x ≤ 8) (h1 : iv_su σ t x → Q 1 σ) (h0 : ¬ iv_su σ t x → Q 0 σ) : fb_V E fb_Pr_suits 0 [.inr 1, .inl t, .inl x, .inr 999] [] σ Q := by
  apply Pr_suits_b0
  apply ct_sizeOf (σ.1 41 - 1) x (by omega) hx hfc hvc
  unfold iv_su at h1 h0
  generalize iv_sz σ (σ.1 41 - 1) x = z at *
  refine ⟨by omega, fun e => ?_, ?_⟩
  · apply ct_isScalar z (by omega) <;> grind
  · grind
