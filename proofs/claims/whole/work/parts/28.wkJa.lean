theorem Ja_fill23_b0 {E : fb_E} {σ : fb_S} {Q : Int → fb_S → Prop} (v1 : Int) (h : fb_V E fb_Ja_fill 5 [.inr 23, .inl v1, .inl 0, .inl 6] [] σ Q) : fb_V E fb_Ja_fill 0 [.inr 23, .inl v1, .inr 999, .inr 999] [] σ Q := by
  refine fb_iconst dd_Ja_fill_0 (fb_istore_n dd_Ja_fill_1 rfl rfl rfl (fb_aload_n dd_Ja_fill_2 rfl (by decide) (fb_alen (n := 6) dd_Ja_fill_3 rfl (by decide) (fb_istore_n dd_Ja_fill_4 rfl rfl rfl ?_))))
  exact h
theorem Ja_fill23_b5 {E : fb_E} {σ : fb_S} {Q : Int → fb_S → Prop} (v1 v2 v3 : Int) (h : (-2147483648 ≤ v2 ∧ v2 < 2147483648) ∧ ((-2147483648 ≤ v3 ∧ v3 < 2147483648) ∧ ((v3 ≤ v2 → Q 0 σ) ∧ (¬ v3 ≤ v2 → (0 ≤ v2 ∧ v2 < 6) ∧ (fb_V E fb_Ja_fill 5 [.inr 23, .inl v1, .inl (v2 + 1), .inl v3] [] (fb_sm σ 23 v2 v1) Q))))) : fb_V E fb_Ja_fill 5 [.inr 23, .inl v1, .inl v2, .inl v3] [] σ Q := by
  refine fb_iload_n dd_Ja_fill_5 rfl (fb_iload_n dd_Ja_fill_6 rfl ?_)
  obtain ⟨q1, h⟩ := h
  obtain ⟨q2, h⟩ := h
  refine fb_icmp_ge (tgt := 20) dd_Ja_fill_7 rfl q1 q2 (fun hc => ?_) (fun hc => ?_)
  · replace h := h.1 hc
    exact fb_vret dd_Ja_fill_20 rfl h
  · replace h := h.2 hc
    refine fb_aload_n dd_Ja_fill_10 rfl (by decide) (fb_iload_n dd_Ja_fill_11 rfl (fb_iload_n dd_Ja_fill_12 rfl ?_))
    obtain ⟨q3, h⟩ := h
    refine fb_ist dd_Ja_fill_13 rfl q3 (fb_iinc dd_Ja_fill_14 rfl rfl rfl (fb_goto (tgt := 5) dd_Ja_fill_17 rfl ?_))
    exact h
theorem Ja_fill32_b0 {E : fb_E} {σ : fb_S} {Q : Int → fb_S → Prop} (v1 : Int) (h : fb_V E fb_Ja_fill 5 [.inr 32, .inl v1, .inl 0, .inl 500] [] σ Q) : fb_V E fb_Ja_fill 0 [.inr 32, .inl v1, .inr 999, .inr 999] [] σ Q := by
  refine fb_iconst dd_Ja_fill_0 (fb_istore_n dd_Ja_fill_1 rfl rfl rfl (fb_aload_n dd_Ja_fill_2 rfl (by decide) (fb_alen (n := 500) dd_Ja_fill_3 rfl (by decide) (fb_istore_n dd_Ja_fill_4 rfl rfl rfl ?_))))
  exact h
theorem Ja_fill32_b5 {E : fb_E} {σ : fb_S} {Q : Int → fb_S → Prop} (v1 v2 v3 : Int) (h : (-2147483648 ≤ v2 ∧ v2 < 2147483648) ∧ ((-2147483648 ≤ v3 ∧ v3 < 2147483648) ∧ ((v3 ≤ v2 → Q 0 σ) ∧ (¬ v3 ≤ v2 → (0 ≤ v2 ∧ v2 < 500) ∧ (fb_V E fb_Ja_fill 5 [.inr 32, .inl v1, .inl (v2 + 1), .inl v3] [] (fb_sm σ 32 v2 v1) Q))))) : fb_V E fb_Ja_fill 5 [.inr 32, .inl v1, .inl v2, .inl v3] [] σ Q := by
  refine fb_iload_n dd_Ja_fill_5 rfl (fb_iload_n dd_Ja_fill_6 rfl ?_)
  obtain ⟨q1, h⟩ := h
  obtain ⟨q2, h⟩ := h
  refine fb_icmp_ge (tgt := 20) dd_Ja_fill_7 rfl q1 q2 (fun hc => ?_) (fun hc => ?_)
  · replace h := h.1 hc
    exact fb_vret dd_Ja_fill_20 rfl h
  · replace h := h.2 hc
    refine fb_aload_n dd_Ja_fill_10 rfl (by decide) (fb_iload_n dd_Ja_fill_11 rfl (fb_iload_n dd_Ja_fill_12 rfl ?_))
    obtain ⟨q3, h⟩ := h
    refine fb_ist dd_Ja_fill_13 rfl q3 (fb_iinc dd_Ja_fill_14 rfl rfl rfl (fb_goto (tgt := 5) dd_Ja_fill_17 rfl ?_))
    exact h
theorem Ja_fill37_b0 {E : fb_E} {σ : fb_S} {Q : Int → fb_S → Prop} (v1 : Int) (h : fb_V E fb_Ja_fill 5 [.inr 37, .inl v1, .inl 0, .inl 128] [] σ Q) : fb_V E fb_Ja_fill 0 [.inr 37, .inl v1, .inr 999, .inr 999] [] σ Q := by
  refine fb_iconst dd_Ja_fill_0 (fb_istore_n dd_Ja_fill_1 rfl rfl rfl (fb_aload_n dd_Ja_fill_2 rfl (by decide) (fb_alen (n := 128) dd_Ja_fill_3 rfl (by decide) (fb_istore_n dd_Ja_fill_4 rfl rfl rfl ?_))))
  exact h
theorem Ja_fill37_b5 {E : fb_E} {σ : fb_S} {Q : Int → fb_S → Prop} (v1 v2 v3 : Int) (h : (-2147483648 ≤ v2 ∧ v2 < 2147483648) ∧ ((-2147483648 ≤ v3 ∧ v3 < 2147483648) ∧ ((v3 ≤ v2 → Q 0 σ) ∧ (¬ v3 ≤ v2 → (0 ≤ v2 ∧ v2 < 128) ∧ (fb_V E fb_Ja_fill 5 [.inr 37, .inl v1, .inl (v2 + 1), .inl v3] [] (fb_sm σ 37 v2 v1) Q))))) : fb_V E fb_Ja_fill 5 [.inr 37, .inl v1, .inl v2, .inl v3] [] σ Q := by
  refine fb_iload_n dd_Ja_fill_5 rfl (fb_iload_n dd_Ja_fill_6 rfl ?_)
  obtain ⟨q1, h⟩ := h
  obtain ⟨q2, h⟩ := h
  refine fb_icmp_ge (tgt := 20) dd_Ja_fill_7 rfl q1 q2 (fun hc => ?_) (fun hc => ?_)
  · replace h := h.1 hc
    exact fb_vret dd_Ja_fill_20 rfl h
  · replace h := h.2 hc
    refine fb_aload_n dd_Ja_fill_10 rfl (by decide) (fb_iload_n dd_Ja_fill_11 rfl (fb_iload_n dd_Ja_fill_12 rfl ?_))
    obtain ⟨q3, h⟩ := h
    refine fb_ist dd_Ja_fill_13 rfl q3 (fb_iinc dd_Ja_fill_14 rfl rfl rfl (fb_goto (tgt := 5) dd_Ja_fill_17 rfl ?_))
    exact h
