/-! the reference's op() -/
theorem iv_q0 {z : Int → Int} {op a b c : Int} (ho : 0 ≤ op ∧ op ≤ 15) (ha : -2147483648 ≤ a ∧ a < 2147483648) (hb : -2147483648 ≤ b ∧ b < 2147483648) (hc : -2147483648 ≤ c ∧ c < 2147483648) (e : op = 0) : iv_f0 z op a b c ↔ iv_sc z a ∧ 0 ≤ b ∧ b ≤ 65535 :=
  ⟨fun h => h.2.2.2.2.1 e, fun h => ⟨ho, ha, hb, hc, fun _ => h, fun e2 => by omega, fun e2 => by omega, fun e2 => by omega, fun e2 => by omega, fun e2 => by omega, fun e2 => by omega, fun e2 => by omega, fun e2 => by omega, fun e2 => by omega, fun e2 => by omega⟩⟩
theorem iv_q1 {z : Int → Int} {op a b c : Int} (ho : 0 ≤ op ∧ op ≤ 15) (ha : -2147483648 ≤ a ∧ a < 2147483648) (hb : -2147483648 ≤ b ∧ b < 2147483648) (hc : -2147483648 ≤ c ∧ c < 2147483648) (e : op = 1) : iv_f0 z op a b c ↔ iv_sc z a ∧ iv_sc z b :=
  ⟨fun h => h.2.2.2.2.2.1 e, fun h => ⟨ho, ha, hb, hc, fun e2 => by omega, fun _ => h, fun e2 => by omega, fun e2 => by omega, fun e2 => by omega, fun e2 => by omega, fun e2 => by omega, fun e2 => by omega, fun e2 => by omega, fun e2 => by omega, fun e2 => by omega⟩⟩
theorem iv_q2 {z : Int → Int} {op a b c : Int} (ho : 0 ≤ op ∧ op ≤ 15) (ha : -2147483648 ≤ a ∧ a < 2147483648) (hb : -2147483648 ≤ b ∧ b < 2147483648) (hc : -2147483648 ≤ c ∧ c < 2147483648) (e : 2 ≤ op ∧ op ≤ 6) : iv_f0 z op a b c ↔ iv_sc z a ∧ iv_sc z b ∧ iv_sc z c :=
  ⟨fun h => h.2.2.2.2.2.2.1 e, fun h => ⟨ho, ha, hb, hc, fun e2 => by omega, fun e2 => by omega, fun _ => h, fun e2 => by omega, fun e2 => by omega, fun e2 => by omega, fun e2 => by omega, fun e2 => by omega, fun e2 => by omega, fun e2 => by omega, fun e2 => by omega⟩⟩
theorem iv_q3 {z : Int → Int} {op a b c : Int} (ho : 0 ≤ op ∧ op ≤ 15) (ha : -2147483648 ≤ a ∧ a < 2147483648) (hb : -2147483648 ≤ b ∧ b < 2147483648) (hc : -2147483648 ≤ c ∧ c < 2147483648) (e : op = 7) : iv_f0 z op a b c ↔ iv_sc z a :=
  ⟨fun h => h.2.2.2.2.2.2.2.1 e, fun h => ⟨ho, ha, hb, hc, fun e2 => by omega, fun e2 => by omega, fun e2 => by omega, fun _ => h, fun e2 => by omega, fun e2 => by omega, fun e2 => by omega, fun e2 => by omega, fun e2 => by omega, fun e2 => by omega, fun e2 => by omega⟩⟩
theorem iv_q4 {z : Int → Int} {op a b c : Int} (ho : 0 ≤ op ∧ op ≤ 15) (ha : -2147483648 ≤ a ∧ a < 2147483648) (hb : -2147483648 ≤ b ∧ b < 2147483648) (hc : -2147483648 ≤ c ∧ c < 2147483648) (e : op = 8) : iv_f0 z op a b c ↔ iv_sc z a ∧ 3 ≤ z b ∧ z c = 1 :=
  ⟨fun h => h.2.2.2.2.2.2.2.2.1 e, fun h => ⟨ho, ha, hb, hc, fun e2 => by omega, fun e2 => by omega, fun e2 => by omega, fun e2 => by omega, fun _ => h, fun e2 => by omega, fun e2 => by omega, fun e2 => by omega, fun e2 => by omega, fun e2 => by omega, fun e2 => by omega⟩⟩
theorem iv_q5 {z : Int → Int} {op a b c : Int} (ho : 0 ≤ op ∧ op ≤ 15) (ha : -2147483648 ≤ a ∧ a < 2147483648) (hb : -2147483648 ≤ b ∧ b < 2147483648) (hc : -2147483648 ≤ c ∧ c < 2147483648) (e : op = 9) : iv_f0 z op a b c ↔ 3 ≤ z a ∧ z b = 1 ∧ iv_sc z c :=
  ⟨fun h => h.2.2.2.2.2.2.2.2.2.1 e, fun h => ⟨ho, ha, hb, hc, fun e2 => by omega, fun e2 => by omega, fun e2 => by omega, fun e2 => by omega, fun e2 => by omega, fun _ => h, fun e2 => by omega, fun e2 => by omega, fun e2 => by omega, fun e2 => by omega, fun e2 => by omega⟩⟩
theorem iv_q6 {z : Int → Int} {op a b c : Int} (ho : 0 ≤ op ∧ op ≤ 15) (ha : -2147483648 ≤ a ∧ a < 2147483648) (hb : -2147483648 ≤ b ∧ b < 2147483648) (hc : -2147483648 ≤ c ∧ c < 2147483648) (e : op = 11) : iv_f0 z op a b c ↔ iv_sc z a :=
  ⟨fun h => h.2.2.2.2.2.2.2.2.2.2.1 e, fun h => ⟨ho, ha, hb, hc, fun e2 => by omega, fun e2 => by omega, fun e2 => by omega, fun e2 => by omega, fun e2 => by omega, fun e2 => by omega, fun _ => h, fun e2 => by omega, fun e2 => by omega, fun e2 => by omega, fun e2 => by omega⟩⟩
theorem iv_q7 {z : Int → Int} {op a b c : Int} (ho : 0 ≤ op ∧ op ≤ 15) (ha : -2147483648 ≤ a ∧ a < 2147483648) (hb : -2147483648 ≤ b ∧ b < 2147483648) (hc : -2147483648 ≤ c ∧ c < 2147483648) (e : op = 12) : iv_f0 z op a b c ↔ iv_sc z a ∧ iv_sc z b :=
  ⟨fun h => h.2.2.2.2.2.2.2.2.2.2.2.1 e, fun h => ⟨ho, ha, hb, hc, fun e2 => by omega, fun e2 => by omega, fun e2 => by omega, fun e2 => by omega, fun e2 => by omega, fun e2 => by omega, fun e2 => by omega, fun _ => h, fun e2 => by omega, fun e2 => by omega, fun e2 => by omega⟩⟩
theorem iv_q8 {z : Int → Int} {op a b c : Int} (ho : 0 ≤ op ∧ op ≤ 15) (ha : -2147483648 ≤ a ∧ a < 2147483648) (hb : -2147483648 ≤ b ∧ b < 2147483648) (hc : -2147483648 ≤ c ∧ c < 2147483648) (e : op = 13) : iv_f0 z op a b c ↔ iv_sc z b ∧ iv_sc z c :=
  ⟨fun h => h.2.2.2.2.2.2.2.2.2.2.2.2.1 e, fun h => ⟨ho, ha, hb, hc, fun e2 => by omega, fun e2 => by omega, fun e2 => by omega, fun e2 => by omega, fun e2 => by omega, fun e2 => by omega, fun e2 => by omega, fun e2 => by omega, fun _ => h, fun e2 => by omega, fun e2 => by omega⟩⟩
theorem iv_q9 {z : Int → Int} {op a b c : Int} (ho : 0 ≤ op ∧ op ≤ 15) (ha : -2147483648 ≤ a ∧ a < 2147483648) (hb : -2147483648 ≤ b ∧ b < 2147483648) (hc : -2147483648 ≤ c ∧ c < 2147483648) (e : op = 14) : iv_f0 z op a b c ↔ iv_sc z a :=
  ⟨fun h => h.2.2.2.2.2.2.2.2.2.2.2.2.2.1 e, fun h => ⟨ho, ha, hb, hc, fun e2 => by omega, fun e2 => by omega, fun e2 => by omega, fun e2 => by omega, fun e2 => by omega, fun e2 => by omega, fun e2 => by omega, fun e2 => by omega, fun e2 => by omega, fun _ => h, fun e2 => by omega⟩⟩
theorem iv_q10 {z : Int → Int} {op a b c : Int} (ho : 0 ≤ op ∧ op ≤ 15) (ha : -2147483648 ≤ a ∧ a < 2147483648) (hb : -2147483648 ≤ b ∧ b < 2147483648) (hc : -2147483648 ≤ c ∧ c < 2147483648) (e : op = 15) : iv_f0 z op a b c ↔ iv_sc z a :=
  ⟨fun h => h.2.2.2.2.2.2.2.2.2.2.2.2.2.2 e, fun h => ⟨ho, ha, hb, hc, fun e2 => by omega, fun e2 => by omega, fun e2 => by omega, fun e2 => by omega, fun e2 => by omega, fun e2 => by omega, fun e2 => by omega, fun e2 => by omega, fun e2 => by omega, fun e2 => by omega, fun _ => h⟩⟩
theorem iv_q10o {z : Int → Int} {op a b c : Int} (ho : 0 ≤ op ∧ op ≤ 15) (ha : -2147483648 ≤ a ∧ a < 2147483648) (hb : -2147483648 ≤ b ∧ b < 2147483648) (hc : -2147483648 ≤ c ∧ c < 2147483648) (e : op = 10) : iv_f0 z op a b c := ⟨ho, ha, hb, hc, fun e2 => by omega, fun e2 => by omega, fun e2 => by omega, fun e2 => by omega, fun e2 => by omega, fun e2 => by omega, fun e2 => by omega, fun e2 => by omega, fun e2 => by omega, fun e2 => by omega, fun e2 => by omega⟩
theorem cm_fine {E : fb_E} {σ : fb_S} {Q : Int → fb_S → Prop} (op a b c : Int) (ho : 0 ≤ op ∧ op ≤ 15) (ha : -2147483648 ≤ a ∧ a < 2147483648) (hb : -2147483648 ≤ b ∧ b < 2147483648) (hc : -2147483648 ≤ c ∧ c < 2147483648) (hM : iv_M σ) (hf : 0 < σ.1 160) (h1 : iv_f0 (iv_mz σ (σ.1 160 - 1)) op a b c → Q 1 σ) (h0 : ¬ iv_f0 (iv_mz σ (σ.1 160 - 1)) op a b c → Q 0 σ) : fb_V E fb_Mo_fine 0 [.inr 5, .inl op, .inl a, .inl b, .inl c] [] σ Q := by
  have sc : ∀ (v : Int) (R : Int → fb_S → Prop), (-2147483648 ≤ v ∧ v < 2147483648) → (iv_sc (iv_mz σ (σ.1 160 - 1)) v → R 1 σ) → (¬ iv_sc (iv_mz σ (σ.1 160 - 1)) v → R 0 σ) → fb_V E fb_Mo_scalar 0 [.inr 5, .inl v] [] σ R := fun v R hv r1 r0 => cm_scalar v hv hM hf r1 r0
  have is : ∀ (v lo hi : Int) (R : Int → fb_S → Prop), (-2147483648 ≤ v ∧ v < 2147483648) → (1 ≤ lo ∧ lo ≤ 8) → (1 ≤ hi ∧ hi ≤ 8) → (lo ≤ iv_mz σ (σ.1 160 - 1) v ∧ iv_mz σ (σ.1 160 - 1) v ≤ hi → R 1 σ) → (¬ (lo ≤ iv_mz σ (σ.1 160 - 1) v ∧ iv_mz σ (σ.1 160 - 1) v ≤ hi) → R 0 σ) → fb_V E fb_Mo_is 0 [.inr 5, .inl v, .inl lo, .inl hi, .inr 999] [] σ R := fun v lo hi R hv hlo hhi r1 r0 => cm_is v lo hi hv hlo hhi hM hf r1 r0
  have z8 : ∀ v, iv_mz σ (σ.1 160 - 1) v ≤ 8 := by
    intro v
    unfold iv_mz
    split
    · next h => exact (hM.2.2.2 (σ.1 160 - 1) v (by omega) (by have := hM.1; omega) h.1 h.2).2
    · omega
  have z8a := z8 a
  have z8b := z8 b
  have z8c := z8 c
  clear z8 hM
  generalize iv_mz σ (σ.1 160 - 1) = z at *
  apply Mo_fine_b0
  refine ⟨by omega, fun e => ?_, fun e => ?_, fun e => ?_, fun e => ?_, fun e => ?_, fun e => ?_, fun e => ?_, fun e => ?_, fun e => ?_⟩
  · have hq := iv_q0 (z := z) ho ha hb hc e
    refine sc a _ ha (fun t0 => ⟨by omega, fun h => by omega, fun _ => ?_⟩) (fun t0 => ⟨by omega, fun _ => h0 (fun q => t0 (hq.mp q).1), fun h => absurd rfl h⟩)
    exact ⟨hb, fun h => h0 (fun q => by have := (hq.mp q).2; omega), fun h => ⟨fun h => h0 (fun q => by have := (hq.mp q).2; omega), fun h => h1 (hq.mpr ⟨t0, by omega, by omega⟩)⟩⟩
  · have hq := iv_q1 (z := z) ho ha hb hc e
    refine sc a _ ha (fun t0 => ⟨by omega, fun h => by omega, fun _ => ?_⟩) (fun t0 => ⟨by omega, fun _ => h0 (fun q => t0 (hq.mp q).1), fun h => absurd rfl h⟩)
    refine sc b _ hb (fun t1 => ⟨by omega, fun h => by omega, fun _ => ?_⟩) (fun t1 => ⟨by omega, fun _ => h0 (fun q => t1 (hq.mp q).2), fun h => absurd rfl h⟩)
    exact h1 (hq.mpr ⟨t0, t1⟩)
  · have hq := iv_q2 (z := z) ho ha hb hc (by omega)
    refine sc a _ ha (fun t0 => ⟨by omega, fun h => by omega, fun _ => ?_⟩) (fun t0 => ⟨by omega, fun _ => h0 (fun q => t0 (hq.mp q).1), fun h => absurd rfl h⟩)
    refine sc b _ hb (fun t1 => ⟨by omega, fun h => by omega, fun _ => ?_⟩) (fun t1 => ⟨by omega, fun _ => h0 (fun q => t1 (hq.mp q).2.1), fun h => absurd rfl h⟩)
    refine sc c _ hc (fun t2 => ⟨by omega, fun h => by omega, fun _ => ?_⟩) (fun t2 => ⟨by omega, fun _ => h0 (fun q => t2 (hq.mp q).2.2), fun h => absurd rfl h⟩)
    exact h1 (hq.mpr ⟨t0, t1, t2⟩)
  · have hq := iv_q4 (z := z) ho ha hb hc e
    refine sc a _ ha (fun t0 => ⟨by omega, fun h => by omega, fun _ => ?_⟩) (fun t0 => ⟨by omega, fun _ => h0 (fun q => t0 (hq.mp q).1), fun h => absurd rfl h⟩)
    refine is b 3 8 _ hb (by omega) (by omega) (fun t1 => ⟨by omega, fun h => by omega, fun _ => ?_⟩) (fun t1 => ⟨by omega, fun _ => h0 (fun q => by have := (hq.mp q).2.1; omega), fun h => absurd rfl h⟩)
    refine is c 1 1 _ hc (by omega) (by omega) (fun t2 => ⟨by omega, fun h => by omega, fun _ => ?_⟩) (fun t2 => ⟨by omega, fun _ => h0 (fun q => by have := (hq.mp q).2.2; omega), fun h => absurd rfl h⟩)
    exact h1 (hq.mpr ⟨t0, by omega, by omega⟩)
  · have hq := iv_q5 (z := z) ho ha hb hc e
    refine is a 3 8 _ ha (by omega) (by omega) (fun t0 => ⟨by omega, fun h => by omega, fun _ => ?_⟩) (fun t0 => ⟨by omega, fun _ => h0 (fun q => by have := (hq.mp q).1; omega), fun h => absurd rfl h⟩)
    refine is b 1 1 _ hb (by omega) (by omega) (fun t1 => ⟨by omega, fun h => by omega, fun _ => ?_⟩) (fun t1 => ⟨by omega, fun _ => h0 (fun q => by have := (hq.mp q).2.1; omega), fun h => absurd rfl h⟩)
    refine sc c _ hc (fun t2 => ⟨by omega, fun h => by omega, fun _ => ?_⟩) (fun t2 => ⟨by omega, fun _ => h0 (fun q => t2 (hq.mp q).2.2), fun h => absurd rfl h⟩)
    exact h1 (hq.mpr ⟨by omega, by omega, t2⟩)
  · exact h1 (iv_q10o ho ha hb hc e)
  · have hq := iv_q7 (z := z) ho ha hb hc e
    refine sc a _ ha (fun t0 => ⟨by omega, fun h => by omega, fun _ => ?_⟩) (fun t0 => ⟨by omega, fun _ => h0 (fun q => t0 (hq.mp q).1), fun h => absurd rfl h⟩)
    refine sc b _ hb (fun t1 => ⟨by omega, fun h => by omega, fun _ => ?_⟩) (fun t1 => ⟨by omega, fun _ => h0 (fun q => t1 (hq.mp q).2), fun h => absurd rfl h⟩)
    exact h1 (hq.mpr ⟨t0, t1⟩)
  · have hq := iv_q8 (z := z) ho ha hb hc e
    refine sc b _ hb (fun t0 => ⟨by omega, fun h => by omega, fun _ => ?_⟩) (fun t0 => ⟨by omega, fun _ => h0 (fun q => t0 (hq.mp q).1), fun h => absurd rfl h⟩)
    refine sc c _ hc (fun t1 => ⟨by omega, fun h => by omega, fun _ => ?_⟩) (fun t1 => ⟨by omega, fun _ => h0 (fun q => t1 (hq.mp q).2), fun h => absurd rfl h⟩)
    exact h1 (hq.mpr ⟨t0, t1⟩)
  · have hq : iv_f0 z op a b c ↔ iv_sc z a := by
      rcases (show op = 7 ∨ op = 11 ∨ op = 14 ∨ op = 15 by omega) with e | e | e | e
      · exact iv_q3 ho ha hb hc e
      · exact iv_q6 ho ha hb hc e
      · exact iv_q9 ho ha hb hc e
      · exact iv_q10 ho ha hb hc e
    exact sc a _ ha (fun t0 => ⟨by omega, h1 (hq.mpr t0)⟩) (fun t0 => ⟨by omega, h0 (fun q => t0 (hq.mp q))⟩)
/-- the reference's state behind an accepted op -/
def iv_op2 (σ : fb_S) (op a b c : Int) : fb_S := fb_sg (fb_sm (fb_sm (fb_sm (fb_sm (fb_sm (iv_chg σ) 43 (24 * (σ.1 160 - 1) + σ.2 41 (σ.1 160 - 1)) op) 44 (24 * (σ.1 160 - 1) + σ.2 41 (σ.1 160 - 1)) a) 45 (24 * (σ.1 160 - 1) + σ.2 41 (σ.1 160 - 1)) b) 46 (24 * (σ.1 160 - 1) + σ.2 41 (σ.1 160 - 1)) c) 41 (σ.1 160 - 1) (σ.2 41 (σ.1 160 - 1) + 1)) 161 (σ.1 161 + 1)
theorem cm_op {E : fb_E} {σ : fb_S} {Q : Int → fb_S → Prop} (op a b c : Int) (ho : -2147483648 ≤ op ∧ op < 2147483648) (ha : -2147483648 ≤ a ∧ a < 2147483648) (hb : -2147483648 ≤ b ∧ b < 2147483648) (hc : -2147483648 ≤ c ∧ c < 2147483648) (hM : iv_M σ)
    (h0 : ¬ (0 < σ.1 160 ∧ σ.2 41 (σ.1 160 - 1) < 24 ∧ σ.1 161 < 60 ∧ iv_f0 (iv_mz σ (σ.1 160 - 1)) op a b c) → Q (-1) σ)
    (h1 : (0 < σ.1 160 ∧ σ.2 41 (σ.1 160 - 1) < 24 ∧ σ.1 161 < 60 ∧ iv_f0 (iv_mz σ (σ.1 160 - 1)) op a b c) → Q (σ.2 41 (σ.1 160 - 1)) (iv_op2 σ op a b c)) : fb_V E fb_Mo_op 0 [.inr 5, .inl op, .inl a, .inl b, .inl c, .inr 999, .inr 999] [] σ Q := by
  apply Mo_op_b0
  have m1 := hM.1
  have m2 := hM.2.1
  refine ⟨by omega, fun h => h0 (fun q => by omega), fun h => ⟨ho, fun h2 => h0 (fun q => by have := q.2.2.2.1; omega), fun h2 => ⟨fun h3 => h0 (fun q => by have := q.2.2.2.1; omega), fun h3 => ?_⟩⟩⟩
  have m3 := hM.2.2.1 (σ.1 160 - 1) (by omega) (by omega)
  refine ⟨by omega, by omega, fun h4 => h0 (fun q => by omega), fun h4 => ⟨by omega, fun h5 => h0 (fun q => by omega), fun h5 => ?_⟩⟩
  apply cm_fine op a b c (by omega) ha hb hc hM (by omega)
  · intro hfi
    refine ⟨by omega, fun _ => ?_, fun h => by omega⟩
    apply Mo_change_b0
    refine ⟨?_, ?_⟩
    · show 0 ≤ 24 * (σ.1 160 - 1) + σ.2 41 (σ.1 160 - 1) ∧ 24 * (σ.1 160 - 1) + σ.2 41 (σ.1 160 - 1) < 144
      omega
    · show Q (σ.2 41 (σ.1 160 - 1) + 1 - 1) (iv_op2 σ op a b c)
      rw [show σ.2 41 (σ.1 160 - 1) + 1 - 1 = σ.2 41 (σ.1 160 - 1) by omega]
      exact h1 ⟨by omega, by omega, by omega, hfi⟩
  · intro hfi
    exact ⟨by omega, fun h => absurd rfl h, fun _ => h0 (fun q => hfi q.2.2.2)⟩
