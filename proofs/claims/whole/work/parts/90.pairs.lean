/-! the pairs of calls that ask -/
/-- what always holds between pairs of calls; N bounds the bytes put out -/
def inv (N : Int) (σ : fb_S) : Prop := iv_P σ ∧ iv_rg σ ∧ (iv_idle σ ∨ ((σ.1 4 = 1 ∧ σ.1 169 = 1) ∧ ∃ π n, cd π n σ ∧ (iv_nor σ ∨ (rn π (ly_n π n) N σ ∧ σ.1 182 = 1))))
section PA
variable {E : fb_E} {π σ τ : fb_S} {L : Int → Int} {n : Nat} {N k v : Int} {Q : Int → Int → fb_S → Prop}
theorem inv_le {N' : Int} (I : inv N σ) (h : N ≤ N') : inv N' σ := by
  obtain ⟨i1, i2, i3⟩ := I
  refine ⟨i1, i2, ?_⟩
  rcases i3 with i | ⟨i, π, n, c, j | ⟨j, j2⟩⟩
  · exact Or.inl i
  · exact Or.inr ⟨i, π, n, c, Or.inl j⟩
  · obtain ⟨r1, r2, r3, o1, o2, o3⟩ := j
    exact Or.inr ⟨i, π, n, c, Or.inr ⟨⟨r1, r2, r3, o1, o2, by omega⟩, j2⟩⟩
theorem inv_code (I : inv N σ) : (σ.1 4 = 0 ∧ σ.1 169 = 0) ∨ ((σ.1 4 = 1 ∧ σ.1 169 = 1) ∧ ∃ π n, cd π n σ) := by
  obtain ⟨i1, i2, i3⟩ := I
  rcases i3 with i | ⟨i, π, n, c, -⟩
  · exact Or.inl ⟨i.1, i.2.1⟩
  · exact Or.inr ⟨i, π, n, c⟩
theorem inv_run (I : inv N σ) : (σ.1 133 = -1 ∧ σ.1 134 = 0 ∧ σ.1 135 = 0 ∧ σ.1 182 = 0) ∨ (σ.1 182 = 1 ∧ (σ.1 4 = 1 ∧ σ.1 169 = 1) ∧ ∃ π n, cd π n σ ∧ rn π (ly_n π n) N σ) := by
  obtain ⟨i1, i2, i3⟩ := I
  rcases i3 with i | ⟨i, π, n, c, j | ⟨j, j2⟩⟩
  · exact Or.inl ⟨i.2.2.1, i.2.2.2.1, i.2.2.2.2.1, i.2.2.2.2.2⟩
  · exact Or.inl j
  · exact Or.inr ⟨j2, i, π, n, c, j⟩
theorem cd_pk (c : cd π n σ) : pk π (ly_n π n) σ := by
  obtain ⟨c1, c2, c3, c4, c5, c6, c7, c8, c9⟩ := c
  obtain ⟨d1, d2, d3, d4, d5, d6, d7⟩ := c5
  refine ⟨c1, c2, c9, d5, fun k k0 k1 => ?_, d7, ly_n_v n, c4⟩
  have := ly_a_lt (π := π) (L := ly_n π n) k0 k1
  exact d6 k k0 k1 (by omega)
theorem cd_X (c : cd π n σ) : mo_X π (ly_n π n) σ := by
  obtain ⟨c1, c2, c3, c4, c5, c6, c7, c8, c9⟩ := c
  obtain ⟨m1, m2, m3, m4, m5, m6, m7⟩ := c6
  exact ⟨c1, c2, c3, c8, m5, m7, fun j _ _ => ly_n_v n j⟩
theorem ly_find : ∀ m : Nat, (0 ≤ v ∧ v < ly_a π L m) → ∃ k, (0 ≤ k ∧ k < (m : Int)) ∧ ly_a π L k ≤ v ∧ v < ly_a π L (k + 1)
  | 0, h => by
    have : ly_a π L ((0 : Nat) : Int) = 0 := ly_a_0
    omega
  | m + 1, h => by
    by_cases g : v < ly_a π L m
    · obtain ⟨k, h1, h2⟩ := ly_find m ⟨h.1, g⟩
      exact ⟨k, by omega, h2⟩
    · exact ⟨m, by omega, by omega, h.2⟩
theorem cd_byte (c : cd π n σ) (hv : 0 ≤ v ∧ v < ly_a π (ly_n π n) (π.1 42)) : σ.2 31 v = σ.2 49 v := by
  obtain ⟨c1, c2, c3, c4, c5, c6, c7, c8, c9⟩ := c
  have hA := c1.1
  unfold iv_A at hA
  obtain ⟨k, hk, h1, h2⟩ := ly_find (π := π) (L := ly_n π n) (v := v) (π.1 42).toNat (by rw [show (((π.1 42).toNat : Nat) : Int) = π.1 42 by omega]; exact hv)
  have es := ly_a_s (π := π) (L := ly_n π n) hk.1 (ly_a π (ly_n π n) (ly_gi π k)) (ly_b π (ly_n π n) k)
  rw [show ly_it π k (ly_a π (ly_n π n) (ly_gi π k)) (ly_n π n k) (ly_b π (ly_n π n) k) = ly_c π (ly_n π n) k from rfl] at es
  have hi : (v - ly_a π (ly_n π n) k).toNat < (em_B (ly_i π (ly_n π n) k) (ly_c π (ly_n π n) k)).length := by omega
  have hb := List.getElem?_eq_getElem hi
  have ev : ly_a π (ly_n π n) k + (((v - ly_a π (ly_n π n) k).toNat : Nat) : Int) = v := by omega
  have b1 := c5.2.2.2.2.1 k hk.1 (by omega) _ _ hb (by omega)
  have b2 := c6.2.2.2.2.2.1 k hk.1 (by omega) _ _ hb (by omega)
  rw [ev] at b1 b2
  rw [b1, b2]
theorem pr_length (I : inv N σ) (h : ∀ r, Q r r σ) : fb_V E fb_Fb_length 0 [.inr 0] [] σ (fun r s => fb_V E fb_Mo_length 0 [.inr 5] [] s (fun r2 s2 => Q r r2 s2)) := by
  apply Fb_length_b0
  rcases inv_code I with i | ⟨i, π, n, c⟩
  · refine ⟨by omega, fun _ => ?_, fun g => absurd i.1 g⟩
    apply Mo_length_b0
    exact ⟨by omega, fun _ => h 0, fun g => absurd i.2 g⟩
  · refine ⟨by omega, fun g => by omega, fun _ => ?_⟩
    apply Mo_length_b0
    refine ⟨by omega, fun g => by omega, fun _ => ?_⟩
    rw [c.2.2.2.2.1.1, c.2.2.2.2.2.1.1]
    exact h _
theorem pr_longs (I : inv N σ) (h : ∀ r, Q r r σ) : fb_V E fb_Fb_longs 0 [.inr 0] [] σ (fun r s => fb_V E fb_Mo_longs 0 [.inr 5] [] s (fun r2 s2 => Q r r2 s2)) := by
  apply Fb_longs_b0
  rcases inv_code I with i | ⟨i, π, n, c⟩
  · refine ⟨by omega, fun _ => ?_, fun g => absurd i.1 g⟩
    apply Mo_longs_b0
    exact ⟨by omega, fun _ => h 0, fun g => absurd i.2 g⟩
  · refine ⟨by omega, fun g => by omega, fun _ => ?_⟩
    apply Mo_longs_b0
    refine ⟨by omega, fun g => by omega, fun _ => ?_⟩
    rw [c.2.2.2.2.1.2.1, c.2.2.2.2.2.1.2.1]
    exact h _
theorem pr_code (hv : -2147483648 ≤ v ∧ v < 2147483648) (I : inv N σ) (h : ∀ r, Q r r σ) : fb_V E fb_Fb_code 0 [.inr 0, .inl v] [] σ (fun r s => fb_V E fb_Mo_code 0 [.inr 5, .inl v] [] s (fun r2 s2 => Q r r2 s2)) := by
  apply Fb_code_b0
  rcases inv_code I with i | ⟨i, π, n, c⟩
  · refine ⟨by omega, fun _ => ?_, fun g => absurd i.1 g⟩
    apply Mo_code_b0
    exact ⟨by omega, fun _ => h _, fun g => absurd i.2 g⟩
  · have hA := c.1.1
    unfold iv_A at hA
    have e1 := c.2.2.2.2.1.1
    have e2 := c.2.2.2.2.2.1.1
    have hl := c.2.2.2.2.2.2.2.2
    have h0 := ly_a_b (π := π) (L := ly_n π n) (show (0 : Int) ≤ π.1 42 by omega)
    have hb := fun hv => cd_byte (v := v) c hv
    have key : fb_V E fb_Mo_code 0 [.inr 5, .inl v] [] σ (fun r2 s2 => Q (if 0 ≤ v ∧ v < ly_a π (ly_n π n) (π.1 42) then σ.2 49 v else -1) r2 s2) := by
      apply Mo_code_b0
      rw [e2]
      refine ⟨by omega, fun g => by omega, fun _ => ⟨hv, fun g => ?_, fun g => ⟨by omega, fun g2 => ?_, fun g2 => ⟨by omega, ?_⟩⟩⟩⟩
      · rw [if_neg (by omega)]; exact h _
      · rw [if_neg (by omega)]; exact h _
      · rw [if_pos (by omega)]; exact h _
    rw [e1]
    refine ⟨by omega, fun g => by omega, fun _ => ⟨hv, fun g => ?_, fun g => ⟨by omega, fun g2 => ?_, fun g2 => ⟨by omega, ?_⟩⟩⟩⟩
    · rw [if_neg (by omega)] at key; exact key
    · rw [if_neg (by omega)] at key; exact key
    · rw [if_pos (by omega), ← hb (by omega)] at key; exact key
theorem pr_base (hv : -2147483648 ≤ v ∧ v < 2147483648) (I : inv N σ) (h : ∀ r, Q r r σ) : fb_V E fb_Fb_base 0 [.inr 0, .inl v] [] σ (fun r s => fb_V E fb_Mo_base 0 [.inr 5, .inl v] [] s (fun r2 s2 => Q r r2 s2)) := by
  have hA := I.1.1
  unfold iv_A at hA
  apply Fb_base_b0
  rcases inv_code I with i | ⟨i, π, n, c⟩
  · refine ⟨by omega, fun _ => ?_, fun g => absurd i.1 g⟩
    apply Mo_base_b0
    exact ⟨by omega, fun _ => h _, fun g => absurd i.2 g⟩
  · have hF := c.2.2.2.2.2.2.1.1
    have h47 := c.2.2.2.2.2.2.2.1
    refine ⟨by omega, fun g => by omega, fun _ => ?_⟩
    apply ct_hasFunction v hv hA.1
    · intro g
      refine ⟨by omega, fun g2 => by omega, fun _ => ⟨by omega, ?_⟩⟩
      apply Mo_base_b0
      refine ⟨by omega, fun g => by omega, fun _ => ⟨hv, fun g => by omega, fun _ => ⟨by omega, fun g => by omega, fun _ => ⟨by omega, ?_⟩⟩⟩⟩
      rw [hF v (by omega) (by omega), h47 v (by omega) (by omega)]
      exact h _
    · intro g
      refine ⟨by omega, fun _ => ?_, fun g2 => absurd rfl g2⟩
      apply Mo_base_b0
      exact ⟨by omega, fun g => by omega, fun _ => ⟨hv, fun g => h _, fun _ => ⟨by omega, fun g => h _, fun _ => by omega⟩⟩⟩
theorem pr_address {w : Int} (hv : -2147483648 ≤ v ∧ v < 2147483648) (hw : -2147483648 ≤ w ∧ w < 2147483648) (I : inv N σ) (h : ∀ r, Q r r σ) : fb_V E fb_Fb_address 0 [.inr 0, .inl v, .inl w] [] σ (fun r s => fb_V E fb_Mo_address 0 [.inr 5, .inl v, .inl w] [] s (fun r2 s2 => Q r r2 s2)) := by
  have hA := I.1.1
  unfold iv_A at hA
  apply Fb_address_b0
  rcases inv_code I with i | ⟨i, π, n, c⟩
  · refine ⟨by omega, fun _ => ?_, fun g => absurd i.1 g⟩
    apply Mo_address_b0
    exact ⟨by omega, fun _ => h _, fun g => absurd i.2 g⟩
  · obtain ⟨c1, c2, c3, c4, c5, c6, c7, c8, c9⟩ := c
    have e41 := c3.2.1
    refine ⟨by omega, fun g => by omega, fun _ => ?_⟩
    apply ct_hasInstruction v w hv hw hA.1 (fun f f0 f6 => (I.1.2.1 f f0 f6).2.2.1)
    · intro g
      have hb := I.1.2.1 v g.1.1 (by omega)
      have hb2 := c1.2.1 v g.1.1 (by omega)
      have e15 : σ.2 15 v = π.2 15 v := congrFun (c3.a 15 (by omega)) v
      have e14 : σ.2 14 v = π.2 14 v := congrFun (c3.a 14 (by omega)) v
      have hfk := iv_fk c1 (f := v) (i := w) g.1.1 (by omega) g.2.1 (by omega)
      have hkx := kx_fi c1 (f := v) (i := w) g.1.1 (by omega) g.2.1 (by omega)
      have hA2 := c1.1
      unfold iv_A at hA2
      refine ⟨by omega, fun g2 => by omega, fun _ => ⟨by omega, by omega, ?_⟩⟩
      apply Mo_address_b0
      refine ⟨by omega, fun g => by omega, fun _ => ⟨hv, fun g => by omega, fun _ => ⟨by omega, fun g => by omega, fun _ => ⟨hw, fun g => by omega, fun _ => ⟨by omega, by omega, fun g => by omega, fun _ => ⟨by omega, ?_⟩⟩⟩⟩⟩⟩
      rw [e14, c5.2.2.1 _ hfk.1.1 hfk.1.2, ← hkx, c6.2.2.1 _ hfk.1.1 hfk.1.2]
      exact h _
    · intro g
      refine ⟨by omega, fun _ => ?_, fun g2 => absurd rfl g2⟩
      apply Mo_address_b0
      refine ⟨by omega, fun g => by omega, fun _ => ⟨hv, fun g => h _, fun g1 => ⟨by omega, fun g => h _, fun g2 => ⟨hw, fun g => h _, fun g3 => ?_⟩⟩⟩⟩
      have hb := I.1.2.1 v (by omega) (by omega)
      exact ⟨by omega, by omega, fun g => h _, fun g4 => absurd ⟨⟨by omega, by omega⟩, by omega, by omega⟩ g⟩
theorem rn_1 (X : rn π L N σ) : (σ.1 133 = σ.1 183 ∧ (σ.1 183 = 0 ∨ σ.1 183 = 1 ∨ σ.1 183 = 2)) ∧ σ.1 134 = σ.1 184 ∧ (σ.1 135 = σ.1 186 ∧ 0 ≤ σ.1 186 ∧ σ.1 186 ≤ N) := by
  obtain ⟨x1, x2, x3, x4⟩ := X
  exact ⟨⟨x3.1, x4.2.1⟩, x3.2.1, x3.2.2.1, x4.2.2⟩
theorem pr_state (I : inv N σ) (h : ∀ r, Q r r σ) : fb_V E fb_Fb_state 0 [.inr 0] [] σ (fun r s => fb_V E fb_Mo_state 0 [.inr 5] [] s (fun r2 s2 => Q r r2 s2)) := by
  apply Fb_state_b0
  apply Mo_state_b0
  rcases inv_run I with i | ⟨i, i2, π, n, c, x⟩
  · refine ⟨by omega, fun _ => ?_, fun g => absurd i.2.2.2 g⟩
    rw [i.1]; exact h _
  · refine ⟨by omega, fun g => by omega, fun _ => ?_⟩
    rw [(rn_1 x).1.1]; exact h _
theorem pr_spent (I : inv N σ) (h : ∀ r, Q r r σ) : fb_V E fb_Fb_spent 0 [.inr 0] [] σ (fun r s => fb_V E fb_Mo_spent 0 [.inr 5] [] s (fun r2 s2 => Q r r2 s2)) := by
  apply Fb_spent_b0
  apply Mo_spent_b0
  rcases inv_run I with i | ⟨i, i2, π, n, c, x⟩
  · refine ⟨by omega, fun _ => ?_, fun g => absurd i.2.2.2 g⟩
    rw [i.2.1]; exact h _
  · refine ⟨by omega, fun g => by omega, fun _ => ?_⟩
    rw [(rn_1 x).2.1]; exact h _
theorem rn_K (X : rn π L N σ) (h0 : σ.1 183 = 0) : am_vK π (am_K σ) ∧ (0 ≤ σ.1 136 ∧ σ.1 136 < 500) ∧ σ.2 32 (σ.1 136) = am_K σ ∧ σ.1 132 = σ.1 185 - 1 ∧ (1 ≤ σ.1 185 ∧ σ.1 185 ≤ 6) := by
  obtain ⟨C, x2, x3, x4⟩ := X
  have W := x4.1 h0
  obtain ⟨r1, r2, -⟩ := x3.2.2.2.2 h0
  have hK : am_vK π (am_K σ) := W.2.1 _ (by have := W.1; omega) (by omega)
  have hk := am_vK_k C.1 hK
  have lb := lb_at C hk.2.2.1.1 hk.2.2.1.2
  rw [r2]
  exact ⟨hK, lb.1, lb.2.1.trans hk.2.2.2.2.1, r1, W.1⟩
theorem pr_label {R : Int → fb_S → Prop} (I : inv N σ) (h0 : (¬ σ.1 133 = 0) → R (-1) σ) (h1 : σ.1 133 = 0 → σ.1 182 = 1 → R (am_K σ) σ) : fb_V E fb_Po_label 0 [.inr 4] [] σ R := by
  apply Po_label_b0
  rcases inv_run I with i | ⟨i, i2, π, n, c, x⟩
  · exact ⟨by omega, fun g => h0 g, fun g => by omega⟩
  · have r := rn_1 x
    refine ⟨by omega, fun g => h0 g, fun g => ?_⟩
    have hK := rn_K x (by omega)
    apply Po_labelHere_b0
    refine ⟨by omega, fun g => by omega, fun _ => ⟨fun g => by omega, fun _ => ⟨hK.2.1, ?_⟩⟩⟩
    rw [hK.2.2.1]
    exact h1 g i
theorem pr_next (I : inv N σ) (h : ∀ r, Q r r σ) : fb_V E fb_Fb_next 0 [.inr 0] [] σ (fun r s => fb_V E fb_Mo_next 0 [.inr 5] [] s (fun r2 s2 => Q r r2 s2)) := by
  apply Fb_next_b0
  apply pr_label I
  · intro g
    apply Mo_next_b0
    rcases inv_run I with i | ⟨i, i2, π, n, c, x⟩
    · exact ⟨by omega, fun _ => h _, fun g => absurd i.2.2.2 g⟩
    · have r := rn_1 x
      exact ⟨by omega, fun g => by omega, fun _ => ⟨by omega, fun _ => h _, fun g2 => by omega⟩⟩
  · intro g g2
    apply Mo_next_b0
    rcases inv_run I with i | ⟨i, i2, π, n, c, x⟩
    · omega
    · have r := rn_1 x
      have hK := rn_K x (by omega)
      exact ⟨by omega, fun g => by omega, fun _ => ⟨by omega, fun g => by omega, fun _ => ⟨by omega, h (am_K σ)⟩⟩⟩
theorem pr_depth (I : inv N σ) (h : ∀ r, Q r r σ) : fb_V E fb_Fb_depth 0 [.inr 0] [] σ (fun r s => fb_V E fb_Mo_depth 0 [.inr 5] [] s (fun r2 s2 => Q r r2 s2)) := by
  apply Fb_depth_b0
  rcases inv_run I with i | ⟨i, i2, π, n, c, x⟩
  · refine ⟨by omega, fun _ => ?_, fun g => by omega⟩
    apply Mo_depth_b0
    exact ⟨by omega, fun _ => h _, fun g => absurd i.2.2.2 g⟩
  · have r := rn_1 x
    refine ⟨by omega, fun g => ?_, fun g => ?_⟩
    · apply Mo_depth_b0
      exact ⟨by omega, fun g => by omega, fun _ => ⟨by omega, fun _ => h _, fun g2 => by omega⟩⟩
    · have hK := rn_K x (by omega)
      apply Mo_depth_b0
      refine ⟨by omega, fun g => by omega, fun _ => ⟨by omega, fun g => by omega, fun _ => ?_⟩⟩
      rw [show σ.1 132 + 1 = σ.1 185 by omega]
      exact h _
theorem pr_output (hv : -2147483648 ≤ v ∧ v < 2147483648) (I : inv N σ) (hN : N < 2147480000) (h : ∀ r, Q r r σ) : fb_V E fb_Fb_output 0 [.inr 0, .inl v] [] σ (fun r s => fb_V E fb_Mo_output 0 [.inr 5, .inl v] [] s (fun r2 s2 => Q r r2 s2)) := by
  apply Fb_output_b0
  rcases inv_run I with i | ⟨i, i2, π, n, c, x⟩
  · have key : fb_V E fb_Mo_output 0 [.inr 5, .inl v] [] σ (fun r2 s2 => Q (if v = -1 then 0 else -1) r2 s2) := by
      apply Mo_output_b0
      refine ⟨hv, fun g => ⟨by omega, fun _ => ?_, fun g => absurd i.2.2.2 g⟩, fun g => ⟨by omega, fun _ => ?_, fun g => absurd i.2.2.2 g⟩⟩
      · rw [if_neg g]; exact h _
      · rw [if_pos g]; exact h _
    refine ⟨hv, fun g => ⟨fun g2 => ?_, fun g2 => ⟨by omega, fun g3 => ?_, fun g3 => by omega⟩⟩, fun g => ?_⟩
    · rw [if_neg g] at key; exact key
    · rw [if_neg g] at key; exact key
    · rw [if_pos g, ← i.2.2.1] at key; exact key
  · have r := rn_1 x
    have h57 := x.2.2.1.2.2.2.1
    have key : fb_V E fb_Mo_output 0 [.inr 5, .inl v] [] σ (fun r2 s2 => Q (if v = -1 then σ.1 186 else if 0 ≤ v ∧ v < σ.1 186 ∧ v < 100 then σ.2 57 v else -1) r2 s2) := by
      apply Mo_output_b0
      refine ⟨hv, fun g => ⟨by omega, fun g => by omega, fun _ => ⟨fun g2 => ?_, fun g2 => ⟨by omega, fun g3 => ?_, fun g3 => ⟨fun g4 => ?_, fun g4 => ⟨by omega, ?_⟩⟩⟩⟩⟩, fun g => ⟨by omega, fun g => by omega, fun _ => ?_⟩⟩
      · rw [if_neg g, if_neg (by omega)]; exact h _
      · rw [if_neg g, if_neg (by omega)]; exact h _
      · rw [if_neg g, if_neg (by omega)]; exact h _
      · rw [if_neg g, if_pos (by omega)]; exact h _
      · rw [if_pos g]; exact h _
    refine ⟨hv, fun g => ⟨fun g2 => ?_, fun g2 => ⟨by omega, fun g3 => ?_, fun g3 => ⟨fun g4 => ?_, fun g4 => ⟨by omega, ?_⟩⟩⟩⟩, fun g => ?_⟩
    · rw [if_neg g, if_neg (by omega)] at key; exact key
    · rw [if_neg g, if_neg (by omega)] at key; exact key
    · rw [if_neg g, if_neg (by omega)] at key; exact key
    · rw [if_neg g, if_pos (by omega), ← h57 v (by omega) (by omega) (by omega)] at key; exact key
    · rw [if_pos g, ← r.2.2.1] at key; exact key
theorem pr_value {w : Int} (hv : -2147483648 ≤ v ∧ v < 2147483648) (hw : -2147483648 ≤ w ∧ w < 2147483648) (I : inv N σ) (h : ∀ r, Q r r σ) : fb_V E fb_Fb_value 0 [.inr 0, .inl v, .inl w, .inr 999, .inr 999] [] σ (fun r s => fb_V E fb_Mo_value 0 [.inr 5, .inl v, .inl w, .inr 999] [] s (fun r2 s2 => Q r r2 s2)) := by
  apply Fb_value_b0
  apply pr_label I
  · intro g
    refine ⟨by omega, fun g2 => absurd rfl g2, fun _ => ?_⟩
    apply Mo_value_b0
    rcases inv_run I with i | ⟨i, i2, π, n, c, x⟩
    · exact ⟨by omega, fun _ => h _, fun g => absurd i.2.2.2 g⟩
    · have r := rn_1 x
      exact ⟨by omega, fun g => by omega, fun _ => ⟨by omega, fun g2 => by omega, fun _ => h _⟩⟩
  · intro g g2
    rcases inv_run I with i | ⟨i, i2, π, n, c, x⟩
    · omega
    · have r := rn_1 x
      have h0 : σ.1 183 = 0 := by omega
      have hK := rn_K x h0
      have hP := c.1
      have hk := am_vK_k hP hK.1
      have e41 := c.2.2.1.2.1
      have hA := hP.1
      unfold iv_A at hA
      have hf : 0 ≤ am_K σ / 24 ∧ am_K σ / 24 < σ.1 41 := by omega
      have hb := I.1.2.1 (am_K σ / 24) hf.1 (by omega)
      have hsz := iv_sz_in I.1 (am_K σ / 24) v
      have rl := x.2.2.1.2.2.2.2 h0
      have hD := rl.2.2.1
      have es := iv_sz_z (v := v) hf.1 hf.2
      have key : fb_V E fb_Mo_value 0 [.inr 5, .inl v, .inl w, .inr 999] [] σ (fun r2 s2 => Q (if 0 ≤ w ∧ w < iv_z σ (am_K σ / 24) v then σ.2 56 (σ.2 47 (am_K σ / 24) + iv_ps σ (am_K σ / 24) v.toNat + w) else -1) r2 s2) := by
        apply Mo_value_b0
        rw [show σ.2 55 (σ.1 185 - 1) = am_K σ from rfl]
        refine ⟨by omega, fun g => by omega, fun _ => ⟨by omega, fun _ => ⟨by omega, by omega, hv, fun g => ?_, fun g => ⟨by omega, by omega, fun g3 => ?_, fun g3 => ⟨hw, fun g4 => ?_, fun g4 => ?_⟩⟩⟩, fun g => absurd h0 g⟩⟩
        · rw [if_neg]
          · exact h _
          · intro q
            have := iv_sc_in (show iv_z σ (am_K σ / 24) v ≠ 0 by omega)
            omega
        · rw [if_neg]
          · exact h _
          · intro q
            have := iv_sc_in (show iv_z σ (am_K σ / 24) v ≠ 0 by omega)
            omega
        · rw [if_neg (by omega)]; exact h _
        · have hc := I.1.2.2.1 (am_K σ / 24) v hf.1 (by omega) (by omega) (by omega)
          have ez : iv_z σ (am_K σ / 24) v = σ.2 (7 + (am_K σ / 24).toNat) v := by unfold iv_z; rw [if_pos (by omega)]
          refine ⟨by omega, by rw [hc.2]; omega, fun g5 => ?_, fun g5 => ?_⟩
          · rw [if_neg (by omega)]; exact h _
          · apply cm_place I.1 _ v hf.1 (by omega) (by omega) (by omega)
            rw [if_pos (by omega)]
            have e47 := c.2.2.2.2.2.2.2.1 (am_K σ / 24) hf.1 (by omega)
            have eps := c.2.2.1.ps (f := am_K σ / 24) (by omega) v.toNat
            have eiz := congrFun (c.2.2.1.z (f := am_K σ / 24) hf.1 (by omega)) v
            have lp := ly_p0 hP c.2.1 hk.1.1 hk.1.2 (v := v) (by omega)
            refine ⟨by omega, h _⟩
      refine ⟨by omega, fun _ => ⟨by omega, hw, fun g3 => ?_, fun g3 => ?_⟩, fun g3 => by omega⟩
      · rw [if_neg (by omega)] at key; exact key
      · apply ct_sizeOf (am_K σ / 24) v (by omega) hv (by omega) (fun f f0 f6 => (I.1.2.1 f f0 f6).1)
        rw [es] at hsz ⊢
        refine ⟨by omega, fun g4 => ?_, fun g4 => ?_⟩
        · have rv := iv_sc_in (show iv_z σ (am_K σ / 24) v ≠ 0 by omega)
          have e47 := c.2.2.2.2.2.2.2.1 (am_K σ / 24) hf.1 (by omega)
          have eps := c.2.2.1.ps (f := am_K σ / 24) (by omega) v.toNat
          have eiz := congrFun (c.2.2.1.z (f := am_K σ / 24) hf.1 (by omega)) v
          have e13 : σ.2 13 (am_K σ / 24) = π.2 13 (am_K σ / 24) := congrFun (c.2.2.1.a 13 (by omega)) _
          have lp := ly_p0 hP c.2.1 hk.1.1 hk.1.2 (v := v) (by omega)
          have eF := c.2.2.2.2.2.2.1.2 (am_K σ / 24) v hk.1.1 hk.1.2 rv.1 (by omega)
          rw [if_pos (by omega), e47, eps, ← eF, ← hD _ (by omega) (by omega)] at key
          exact ⟨by omega, by omega, by omega, key⟩
        · rw [if_neg (by omega)] at key; exact key
end PA
