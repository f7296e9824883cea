/-! op() on both sides -/
theorem iv_suits {σ : fb_S} {op a b c : Int} (h0 : 0 < σ.1 41) (ho : 0 ≤ op ∧ op ≤ 15) (ha : -2147483648 ≤ a ∧ a < 2147483648) (hb : -2147483648 ≤ b ∧ b < 2147483648) (hc : -2147483648 ≤ c ∧ c < 2147483648) :
    iv_fi σ (σ.1 41 - 1) op a b c ↔ iv_su σ (fb_sorts (3 * op).toNat) a ∧ iv_su σ (fb_sorts (3 * op + 1).toNat) b ∧ iv_su σ (fb_sorts (3 * op + 2).toNat) c := by
  have e : iv_sz σ (σ.1 41 - 1) = iv_z σ (σ.1 41 - 1) := funext (fun v => iv_sz_z (by omega) (by omega))
  unfold iv_fi iv_f0 iv_su iv_sc
  rw [e]
  generalize iv_z σ (σ.1 41 - 1) = z
  have hcases : op = 0 ∨ op = 1 ∨ op = 2 ∨ op = 3 ∨ op = 4 ∨ op = 5 ∨ op = 6 ∨ op = 7 ∨ op = 8 ∨ op = 9 ∨ op = 10 ∨ op = 11 ∨ op = 12 ∨ op = 13 ∨ op = 14 ∨ op = 15 := by omega
  rcases hcases with rfl | rfl | rfl | rfl | rfl | rfl | rfl | rfl | rfl | rfl | rfl | rfl | rfl | rfl | rfl | rfl <;> simp [fb_sorts] <;> omega
theorem iv_sorts_in : ∀ n : Nat, n < 48 → 0 ≤ fb_sorts n ∧ fb_sorts n ≤ 4 := by decide +kernel
theorem iv_sz_in {σ : fb_S} (hP : iv_P σ) (f v : Int) : 0 ≤ iv_sz σ f v ∧ iv_sz σ f v ≤ 8 := by
  obtain ⟨hA, hB, hC, -⟩ := hP
  unfold iv_sz
  split
  · next h =>
    unfold iv_A at hA
    have := hC f v h.1 (by omega) h.2.2.1 h.2.2.2
    omega
  · omega
/-- the class's state behind an accepted op -/
def iv_op1 (σ : fb_S) (op a b c : Int) : fb_S := iv_drop (fb_sm (fb_sg (fb_sm (fb_sm (fb_sm (fb_sm (fb_sm σ 16 (σ.1 42) (σ.1 41 - 1)) 17 (σ.1 42) op) 18 (σ.1 42) a) 19 (σ.1 42) b) 20 (σ.1 42) c) 42 (σ.1 42 + 1)) 15 (σ.1 41 - 1) (σ.2 15 (σ.1 41 - 1) + 1))
theorem ct_op {E : fb_E} {σ : fb_S} {Q : Int → fb_S → Prop} (op a b c : Int) (ho : -2147483648 ≤ op ∧ op < 2147483648) (ha : -2147483648 ≤ a ∧ a < 2147483648) (hb : -2147483648 ≤ b ∧ b < 2147483648) (hc : -2147483648 ≤ c ∧ c < 2147483648) (hP : iv_P σ)
    (h0 : ¬ (0 < σ.1 41 ∧ σ.2 15 (σ.1 41 - 1) < 24 ∧ σ.1 42 < 60 ∧ iv_fi σ (σ.1 41 - 1) op a b c) → Q (-1) σ)
    (h1 : (0 < σ.1 41 ∧ σ.2 15 (σ.1 41 - 1) < 24 ∧ σ.1 42 < 60 ∧ iv_fi σ (σ.1 41 - 1) op a b c) → Q (σ.2 15 (σ.1 41 - 1)) (iv_op1 σ op a b c)) : fb_V E fb_Fb_op 0 [.inr 0, .inl op, .inl a, .inl b, .inl c] [] σ Q := by
  have hsz := iv_sz_in hP
  obtain ⟨hA, hB, -⟩ := hP
  have hvc : ∀ f, 0 ≤ f → f < 6 → 0 ≤ σ.2 13 f ∧ σ.2 13 f ≤ 6 := fun f f0 f6 => (hB f f0 f6).1
  unfold iv_A iv_B at *
  apply Fb_op_b0
  apply Pr_addInstruction_b0
  have no : ¬ (0 < σ.1 41 ∧ σ.2 15 (σ.1 41 - 1) < 24 ∧ σ.1 42 < 60 ∧ iv_fi σ (σ.1 41 - 1) op a b c) → fb_V E fb_Fb_accepted 0 [.inr 0, .inl (-1)] [] σ (fun r3 s4 => Q r3 s4) := fun h => ct_accepted _ (by omega) (fun _ => h0 h) (fun e => absurd rfl e)
  refine ⟨by omega, fun h => no (fun q => by omega), fun h => ?_⟩
  have hb1 := hB (σ.1 41 - 1) (by omega) (by omega)
  refine ⟨by omega, by omega, fun h2 => no (fun q => by omega), fun h2 => ⟨by omega, fun h3 => ⟨ho, fun h4 => no (fun q => by have := q.2.2.2.1; omega), fun h4 => ⟨fun h5 => ⟨by omega, ?_⟩, fun h5 => no (fun q => by have := q.2.2.2.1; omega)⟩⟩, fun h3 => no (fun q => by omega)⟩⟩
  have hs := iv_suits (op := op) (a := a) (b := b) (c := c) (σ := σ) (by omega) (by omega) ha hb hc
  apply ct_suits _ a (iv_sorts_in _ (by omega)) ha (by omega) hvc (hsz _ _)
  · intro s1
    refine ⟨by omega, fun h => by omega, fun _ => ⟨by omega, ?_⟩⟩
    apply ct_suits _ b (iv_sorts_in _ (by omega)) hb (by omega) hvc (hsz _ _)
    · intro s2
      refine ⟨by omega, fun h => by omega, fun _ => ⟨by omega, ?_⟩⟩
      apply ct_suits _ c (iv_sorts_in _ (by omega)) hc (by omega) hvc (hsz _ _)
      · intro s3
        refine ⟨by omega, fun _ => ⟨by omega, ?_⟩, fun h => by omega⟩
        rw [show σ.2 15 (σ.1 41 - 1) + 1 - 1 = σ.2 15 (σ.1 41 - 1) by omega]
        exact ct_accepted _ (by omega) (fun e => by omega) (fun _ => h1 ⟨by omega, by omega, h3, hs.mpr ⟨s1, s2, s3⟩⟩)
      · intro s3
        exact ⟨by omega, fun h => absurd rfl h, fun _ => no (fun q => s3 (hs.mp q.2.2.2).2.2)⟩
    · intro s2
      exact ⟨by omega, fun _ => no (fun q => s2 (hs.mp q.2.2.2).2.1), fun h => absurd rfl h⟩
  · intro s1
    exact ⟨by omega, fun _ => no (fun q => s1 (hs.mp q.2.2.2).1), fun h => absurd rfl h⟩
/-! the reference -/
/-- sizes as the reference keeps them -/
def iv_mz (σ : fb_S) (f v : Int) : Int := if 0 ≤ v ∧ v < σ.2 40 f then σ.2 42 (6 * f + v) else 0
theorem iv_mz_z {σ : fb_S} (hP : iv_P σ) {f : Int} (h0 : 0 ≤ f) (h6 : f < 6) : iv_mz σ f = iv_z σ f := by
  obtain ⟨hA, hB, hC, -⟩ := hP
  funext v
  unfold iv_mz iv_z
  have := hB f h0 h6
  by_cases h : 0 ≤ v ∧ v < σ.2 13 f
  · rw [if_pos (by omega), if_pos h]
    exact (hC f v h0 h6 h.1 h.2).2
  · rw [if_neg (by omega), if_neg h]
/-- what the reference's own numbers keep to -/
def iv_M (σ : fb_S) : Prop := (0 ≤ σ.1 160 ∧ σ.1 160 ≤ 6) ∧ (0 ≤ σ.1 161 ∧ σ.1 161 ≤ 60) ∧ (∀ f, 0 ≤ f → f < 6 → (0 ≤ σ.2 40 f ∧ σ.2 40 f ≤ 6) ∧ (0 ≤ σ.2 41 f ∧ σ.2 41 f ≤ 24)) ∧ ∀ f v, 0 ≤ f → f < 6 → 0 ≤ v → v < σ.2 40 f → 1 ≤ σ.2 42 (6 * f + v) ∧ σ.2 42 (6 * f + v) ≤ 8
theorem iv_M_of {σ : fb_S} (hP : iv_P σ) : iv_M σ := by
  obtain ⟨hA, hB, hC, -⟩ := hP
  unfold iv_A at hA
  refine ⟨by omega, by omega, fun f h0 h6 => ?_, fun f v h0 h6 hv hw => ?_⟩
  · have := hB f h0 h6; omega
  · have := hB f h0 h6
    have := hC f v h0 h6 hv (by omega)
    omega
theorem iv_M_same {σ τ : fb_S} (hM : iv_M σ) (h1 : τ.1 160 = σ.1 160) (h2 : τ.1 161 = σ.1 161) (h40 : τ.2 40 = σ.2 40) (h41 : τ.2 41 = σ.2 41) (h42 : τ.2 42 = σ.2 42) : iv_M τ := by
  unfold iv_M at *
  rw [h1, h2, h40, h41, h42]
  exact hM
theorem cm_is {E : fb_E} {σ : fb_S} {Q : Int → fb_S → Prop} (v lo hi : Int) (hv : -2147483648 ≤ v ∧ v < 2147483648) (hlo : 1 ≤ lo ∧ lo ≤ 8) (hhi : 1 ≤ hi ∧ hi ≤ 8) (hM : iv_M σ) (hf : 0 < σ.1 160) (h1 : lo ≤ iv_mz σ (σ.1 160 - 1) v ∧ iv_mz σ (σ.1 160 - 1) v ≤ hi → Q 1 σ) (h0 : ¬ (lo ≤ iv_mz σ (σ.1 160 - 1) v ∧ iv_mz σ (σ.1 160 - 1) v ≤ hi) → Q 0 σ) : fb_V E fb_Mo_is 0 [.inr 5, .inl v, .inl lo, .inl hi, .inr 999] [] σ Q := by
  obtain ⟨m1, m2, m3, m4⟩ := hM
  have hb := m3 (σ.1 160 - 1) (by omega) (by omega)
  apply Mo_is_b0
  unfold iv_mz at h1 h0
  refine ⟨hv, fun h => h0 (by rw [if_neg (by omega)]; omega), fun h => ⟨by omega, by omega, fun h2 => h0 (by rw [if_neg (by omega)]; omega), fun h2 => ?_⟩⟩
  have hz := m4 (σ.1 160 - 1) v (by omega) (by omega) (by omega) (by omega)
  rw [if_pos (by omega)] at h1 h0
  exact ⟨by omega, by omega, by omega, fun h3 => h0 (by omega), fun h3 => ⟨by omega, fun h4 => h0 (by omega), fun h4 => h1 (by omega)⟩⟩
theorem cm_scalar {E : fb_E} {σ : fb_S} {Q : Int → fb_S → Prop} (v : Int) (hv : -2147483648 ≤ v ∧ v < 2147483648) (hM : iv_M σ) (hf : 0 < σ.1 160) (h1 : iv_sc (iv_mz σ (σ.1 160 - 1)) v → Q 1 σ) (h0 : ¬ iv_sc (iv_mz σ (σ.1 160 - 1)) v → Q 0 σ) : fb_V E fb_Mo_scalar 0 [.inr 5, .inl v] [] σ Q := by
  apply Mo_scalar_b0
  unfold iv_sc at *
  apply cm_is v 1 2 hv (by omega) (by omega) hM hf
  · exact fun h => ⟨by omega, h1 (by omega)⟩
  · exact fun h => ⟨by omega, h0 (by omega)⟩
