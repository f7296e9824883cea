/-! compile: what is asked of a program first -/
/-- a loop up to N over a fixed state -/
theorem lp_up {P : Int → Prop} {N : Int} (step : ∀ v, 0 ≤ v → v < N → P (v + 1) → P v) (last : P N) : ∀ v, 0 ≤ v → v ≤ N → P v := by
  have key : ∀ (n : Nat) (v : Int), 0 ≤ v → v ≤ N → (N - v).toNat = n → P v := by
    intro n
    induction n with
    | zero => intro v h0 h1 h2; have : v = N := by omega
              rw [this]; exact last
    | succ n ih => intro v h0 h1 h2; exact step v h0 (by omega) (ih (v + 1) (by omega) (by omega) (by omega))
  exact fun v h0 h1 => key _ v h0 h1 rfl
/-- a loop up to N with an invariant -/
theorem lp_st {P : Int → fb_S → Prop} {I : Int → fb_S → Prop} {N : Int} (step : ∀ v σ, 0 ≤ v → v < N → I v σ → (∀ σ', I (v + 1) σ' → P (v + 1) σ') → P v σ) (last : ∀ σ, I N σ → P N σ) : ∀ v σ, 0 ≤ v → v ≤ N → I v σ → P v σ := by
  have key : ∀ (n : Nat) (v : Int) (σ : fb_S), 0 ≤ v → v ≤ N → (N - v).toNat = n → I v σ → P v σ := by
    intro n
    induction n with
    | zero => intro v σ h0 h1 h2 hI; have : v = N := by omega
              subst this; exact last σ hI
    | succ n ih => intro v σ h0 h1 h2 hI; exact step v σ h0 (by omega) hI (fun σ' h' => ih (v + 1) σ' (by omega) (by omega) (by omega) h')
  exact fun v σ h0 h1 hI => key _ v σ h0 h1 rfl hI
/-- every function ends in GOTO or RETURN, and there is one -/
def iv_wf (σ : fb_S) (f : Int) : Prop := ¬ σ.2 15 f = 0 ∧ (σ.2 17 (σ.2 14 f + σ.2 15 f - 1) = 10 ∨ σ.2 17 (σ.2 14 f + σ.2 15 f - 1) = 14)
def iv_wh (σ : fb_S) : Prop := 0 < σ.1 41 ∧ ∀ f, 0 ≤ f → f < σ.1 41 → iv_wf σ f
theorem ct_isWhole {E : fb_E} {σ : fb_S} {Q : Int → fb_S → Prop} (hP : iv_P σ) (h1 : iv_wh σ → Q 1 σ) (h0 : ¬ iv_wh σ → Q 0 σ) : fb_V E fb_Pr_isWhole 0 [.inr 1, .inr 999, .inr 999] [] σ Q := by
  obtain ⟨hA, hB, hC, hD, hG, hF, hE⟩ := hP
  unfold iv_A at hA
  apply Pr_isWhole_b0
  have key := lp_up (P := fun v => (∀ f, 0 ≤ f → f < v → iv_wf σ f) → fb_V E fb_Pr_isWhole 2 [.inr 1, .inl v, .inr 999] [] σ Q) (N := σ.1 41) ?_ ?_
  · exact key 0 (by omega) (by omega) (fun f f0 f1 => by omega)
  · intro v v0 v1 ih hall
    apply Pr_isWhole_b2
    have hb := hB v v0 (by omega)
    have hg := hG v v0 v1
    refine ⟨by omega, by omega, fun h => by omega, fun h => ⟨by omega, by omega, fun hc => ?_, fun hc => h0 (fun q => (q.2 v v0 v1).1 hc)⟩⟩
    have he := hE v (σ.2 15 v - 1) v0 v1 (by omega) (by omega)
    rw [show σ.2 14 v + (σ.2 15 v - 1) = σ.2 14 v + σ.2 15 v - 1 by omega] at he
    have ho := he.2.2.2.2.2.1
    have nxt : iv_wf σ v → fb_V E fb_Pr_isWhole 2 [.inr 1, .inl (v + 1), .inr 999] [] σ Q := by
      intro hw
      apply ih
      intro f f0 f1
      by_cases e : f = v
      · rw [e]; exact hw
      · exact hall f f0 (by omega)
    exact ⟨by omega, by omega, fun h2 => nxt ⟨hc, Or.inl h2⟩, fun h2 => ⟨fun h3 => nxt ⟨hc, Or.inr h3⟩, fun h3 => h0 (fun q => by have := (q.2 v v0 v1).2; omega)⟩⟩
  · intro hall
    apply Pr_isWhole_b2
    exact ⟨by omega, by omega, fun _ => ⟨fun h => h0 (fun q => by have := q.1; omega), fun h => h1 ⟨by omega, hall⟩⟩, fun h => by omega⟩
theorem cm_ended {E : fb_E} {σ : fb_S} {Q : Int → fb_S → Prop} (hP : iv_P σ) (h1 : iv_wh σ → Q 1 σ) (h0 : ¬ iv_wh σ → Q 0 σ) : fb_V E fb_Mo_ended 0 [.inr 5, .inr 999, .inr 999] [] σ Q := by
  obtain ⟨hA, hB, hC, hD, hG, hF, hE⟩ := hP
  unfold iv_A at hA
  apply Mo_ended_b0
  have key := lp_up (P := fun v => (∀ f, 0 ≤ f → f < v → iv_wf σ f) → fb_V E fb_Mo_ended 2 [.inr 5, .inl v, .inr 999] [] σ Q) (N := σ.1 41) ?_ ?_
  · exact key 0 (by omega) (by omega) (fun f f0 f1 => by omega)
  · intro v v0 v1 ih hall
    apply Mo_ended_b2
    have hb := hB v v0 (by omega)
    have hg := hG v v0 v1
    rw [hA.2.2.1, hb.2.2.2.1]
    refine ⟨by omega, by omega, fun h => by omega, fun h => ⟨by omega, by omega, fun hc => ?_, fun hc => h0 (fun q => (q.2 v v0 v1).1 hc)⟩⟩
    have he := hE v (σ.2 15 v - 1) v0 v1 (by omega) (by omega)
    rw [show σ.2 14 v + (σ.2 15 v - 1) = σ.2 14 v + σ.2 15 v - 1 by omega, show 24 * v + (σ.2 15 v - 1) = 24 * v + σ.2 15 v - 1 by omega] at he
    have ho := he.2.2.2.2.2.1
    rw [he.2.1]
    have nxt : iv_wf σ v → fb_V E fb_Mo_ended 2 [.inr 5, .inl (v + 1), .inr 999] [] σ Q := by
      intro hw
      apply ih
      intro f f0 f1
      by_cases e : f = v
      · rw [e]; exact hw
      · exact hall f f0 (by omega)
    exact ⟨by omega, by omega, fun h2 => nxt ⟨hc, Or.inl h2⟩, fun h2 => ⟨fun h3 => nxt ⟨hc, Or.inr h3⟩, fun h3 => h0 (fun q => by have := (q.2 v v0 v1).2; omega)⟩⟩
  · intro hall
    apply Mo_ended_b2
    rw [hA.2.2.1]
    exact ⟨by omega, by omega, fun _ => ⟨fun h => h0 (fun q => by have := q.1; omega), fun h => h1 ⟨by omega, hall⟩⟩, fun h => by omega⟩
/-! targets -/
def iv_isT (o : Int) : Prop := o = 10 ∨ o = 11 ∨ o = 12
/-- the target of instruction k lies in its function -/
def iv_tk (σ : fb_S) (k : Int) : Prop := iv_isT (σ.2 17 k) → 0 ≤ iv_tg σ k ∧ iv_tg σ k < σ.2 15 (σ.2 16 k)
def iv_ta (σ : fb_S) : Prop := ∀ k, 0 ≤ k → k < σ.1 42 → iv_tk σ k
/-- what holds of instruction k -/
theorem iv_k {σ : fb_S} (hP : iv_P σ) {k : Int} (k0 : 0 ≤ k) (k1 : k < σ.1 42) : (0 ≤ σ.2 16 k ∧ σ.2 16 k < σ.1 41) ∧ σ.1 41 ≤ 6 ∧ σ.1 42 ≤ 60 ∧ iv_fi σ (σ.2 16 k) (σ.2 17 k) (σ.2 18 k) (σ.2 19 k) (σ.2 20 k) ∧ (0 ≤ k - σ.2 14 (σ.2 16 k) ∧ k - σ.2 14 (σ.2 16 k) < σ.2 15 (σ.2 16 k)) := by
  obtain ⟨hA, hB, hC, hD, hG, hF, hE⟩ := hP
  unfold iv_A at hA
  have hf := hF k k0 k1
  have he := hE (σ.2 16 k) (k - σ.2 14 (σ.2 16 k)) hf.1.1 hf.1.2 (by omega) (by omega)
  rw [show σ.2 14 (σ.2 16 k) + (k - σ.2 14 (σ.2 16 k)) = k by omega] at he
  exact ⟨hf.1, by omega, by omega, he.2.2.2.2.2, by omega⟩
theorem iv_tg_in {σ : fb_S} (hP : iv_P σ) {k : Int} (k0 : 0 ≤ k) (k1 : k < σ.1 42) : -2147483648 ≤ iv_tg σ k ∧ iv_tg σ k < 2147483648 := by
  have h := (iv_k hP k0 k1).2.2.2.1
  unfold iv_tg
  split
  · exact h.2.1
  · split
    · exact h.2.2.1
    · exact h.2.2.2.1
theorem ct_hasAllTargets {E : fb_E} {σ : fb_S} {Q : Int → fb_S → Prop} (hP : iv_P σ) (h1 : iv_ta σ → Q 1 σ) (h0 : ¬ iv_ta σ → Q 0 σ) : fb_V E fb_Pr_hasAllTargets 0 [.inr 1, .inr 999] [] σ Q := by
  have hA := hP.1
  have hB := hP.2.1
  unfold iv_A at hA
  apply Pr_hasAllTargets_b0
  have key := lp_up (P := fun v => (∀ k, 0 ≤ k → k < v → iv_tk σ k) → fb_V E fb_Pr_hasAllTargets 2 [.inr 1, .inl v] [] σ Q) (N := σ.1 42) ?_ ?_
  · exact key 0 (by omega) (by omega) (fun f f0 f1 => by omega)
  · intro v v0 v1 ih hall
    apply Pr_hasAllTargets_b2
    have hk := iv_k hP v0 v1
    have ho := hk.2.2.2.1.1
    have ht := iv_tg_in hP v0 v1
    have nxt : iv_tk σ v → fb_V E fb_Pr_hasAllTargets 2 [.inr 1, .inl (v + 1)] [] σ Q := by
      intro hw
      apply ih
      intro f f0 f1
      by_cases e : f = v
      · rw [e]; exact hw
      · exact hall f f0 (by omega)
    refine ⟨by omega, by omega, fun h => by omega, fun h => ?_⟩
    apply ct_hasTarget v (by omega) ho
    · intro hT
      refine ⟨by omega, fun h => by omega, fun _ => ⟨by omega, ?_⟩⟩
      apply ct_targetOf v (by omega) ho
      apply ct_hasInstruction _ _ (by omega) ht (by omega) (fun f f0 f6 => (hB f f0 f6).2.2.1)
      · intro hi
        exact ⟨by omega, fun _ => nxt (fun _ => hi.2), fun h => by omega⟩
      · intro hi
        exact ⟨by omega, fun h => absurd rfl h, fun _ => h0 (fun q => hi ⟨hk.1, q v v0 v1 hT⟩)⟩
    · intro hT
      exact ⟨by omega, fun _ => nxt (fun q => absurd q hT), fun h => absurd rfl h⟩
  · intro hall
    apply Pr_hasAllTargets_b2
    exact ⟨by omega, by omega, fun _ => h1 hall, fun h => by omega⟩
/-! callees -/
def iv_ck (σ : fb_S) (k : Int) : Prop := σ.2 17 k = 13 → 0 ≤ σ.2 18 k ∧ σ.2 18 k < σ.1 41
def iv_ca (σ : fb_S) : Prop := ∀ k, 0 ≤ k → k < σ.1 42 → iv_ck σ k
theorem ct_hasAllCallees {E : fb_E} {σ : fb_S} {Q : Int → fb_S → Prop} (hP : iv_P σ) (h1 : iv_ca σ → Q 1 σ) (h0 : ¬ iv_ca σ → Q 0 σ) : fb_V E fb_Pr_hasAllCallees 0 [.inr 1, .inr 999] [] σ Q := by
  have hA := hP.1
  unfold iv_A at hA
  apply Pr_hasAllCallees_b0
  have key := lp_up (P := fun v => (∀ k, 0 ≤ k → k < v → iv_ck σ k) → fb_V E fb_Pr_hasAllCallees 2 [.inr 1, .inl v] [] σ Q) (N := σ.1 42) ?_ ?_
  · exact key 0 (by omega) (by omega) (fun f f0 f1 => by omega)
  · intro v v0 v1 ih hall
    apply Pr_hasAllCallees_b2
    have hk := iv_k hP v0 v1
    have ho := hk.2.2.2.1.1
    have ha := hk.2.2.2.1.2.1
    have nxt : iv_ck σ v → fb_V E fb_Pr_hasAllCallees 2 [.inr 1, .inl (v + 1)] [] σ Q := by
      intro hw
      apply ih
      intro f f0 f1
      by_cases e : f = v
      · rw [e]; exact hw
      · exact hall f f0 (by omega)
    refine ⟨by omega, by omega, fun h => by omega, fun h => ⟨by omega, by omega, fun hc => nxt (fun q => absurd q hc), fun hc => ?_⟩⟩
    apply ct_hasFunction _ ha (by omega)
    · intro hi
      exact ⟨by omega, fun _ => nxt (fun _ => hi), fun h => by omega⟩
    · intro hi
      exact ⟨by omega, fun h => absurd rfl h, fun _ => h0 (fun q => hi (q v v0 v1 hc))⟩
  · intro hall
    apply Pr_hasAllCallees_b2
    exact ⟨by omega, by omega, fun _ => h1 hall, fun h => by omega⟩
