theorem Fr_gatherCalls_b0 {E : fb_E} {σ : fb_S} {Q : Int → fb_S → Prop} (h : fb_V E fb_Fr_gatherCalls 2 [.inr 2, .inl 0] [] σ Q) : fb_V E fb_Fr_gatherCalls 0 [.inr 2, .inr 999] [] σ Q := by
  refine fb_iconst dd_Fr_gatherCalls_0 (fb_istore_n dd_Fr_gatherCalls_1 rfl rfl rfl ?_)
  exact h
theorem Fr_gatherCalls_b2 {E : fb_E} {σ : fb_S} {Q : Int → fb_S → Prop} (v1 : Int) (h : (-2147483648 ≤ v1 ∧ v1 < 2147483648) ∧ ((36 ≤ v1 → fb_V E fb_Fr_gatherCalls 26 [.inr 2, .inl 0] [] σ Q) ∧ (¬ 36 ≤ v1 → (0 ≤ v1 ∧ v1 < 36) ∧ (fb_V E fb_Fr_gatherCalls 2 [.inr 2, .inl (v1 + 1)] [] (fb_sm σ 21 v1 0) Q)))) : fb_V E fb_Fr_gatherCalls 2 [.inr 2, .inl v1] [] σ Q := by
  refine fb_iload_n dd_Fr_gatherCalls_2 rfl (fb_aload_n dd_Fr_gatherCalls_3 rfl (by decide) (fb_getR 2 1 dd_Fr_gatherCalls_4 rfl rfl rfl (by decide) lk_Fr_9 (fb_alen (n := 36) dd_Fr_gatherCalls_7 rfl (by decide) ?_)))
  obtain ⟨q1, h⟩ := h
  refine fb_icmp_ge (tgt := 24) dd_Fr_gatherCalls_8 rfl q1 (by decide) (fun hc => ?_) (fun hc => ?_)
  · replace h := h.1 hc
    refine fb_iconst dd_Fr_gatherCalls_24 (fb_istore_n dd_Fr_gatherCalls_25 rfl rfl rfl ?_)
    exact h
  · replace h := h.2 hc
    refine fb_aload_n dd_Fr_gatherCalls_11 rfl (by decide) (fb_getR 2 1 dd_Fr_gatherCalls_12 rfl rfl rfl (by decide) lk_Fr_9 (fb_iload_n dd_Fr_gatherCalls_15 rfl (fb_iconst dd_Fr_gatherCalls_16 ?_)))
    obtain ⟨q2, h⟩ := h
    refine fb_zst dd_Fr_gatherCalls_17 (by decide) rfl q2 (fb_iinc dd_Fr_gatherCalls_18 rfl rfl rfl (fb_goto (tgt := 2) dd_Fr_gatherCalls_21 rfl ?_))
    exact h
theorem Fr_gatherCalls_b26 {E : fb_E} {σ : fb_S} {Q : Int → fb_S → Prop} (v1 : Int) (h : (-2147483648 ≤ v1 ∧ v1 < 2147483648) ∧ ((-2147483648 ≤ (σ.1 42) ∧ (σ.1 42) < 2147483648) ∧ (((σ.1 42) ≤ v1 → Q 0 σ) ∧ (¬ (σ.1 42) ≤ v1 → (0 ≤ v1 ∧ v1 < 60) ∧ ((-2147483648 ≤ (σ.2 17 v1) ∧ (σ.2 17 v1) < 2147483648) ∧ ((¬ (σ.2 17 v1) = 13 → fb_V E fb_Fr_gatherCalls 26 [.inr 2, .inl (v1 + 1)] [] σ Q) ∧ ((σ.2 17 v1) = 13 → (0 ≤ ((6 * (σ.2 16 v1)) + (σ.2 18 v1)) ∧ ((6 * (σ.2 16 v1)) + (σ.2 18 v1)) < 36) ∧ (fb_V E fb_Fr_gatherCalls 26 [.inr 2, .inl (v1 + 1)] [] (fb_sm σ 21 ((6 * (σ.2 16 v1)) + (σ.2 18 v1)) 1) Q)))))))) : fb_V E fb_Fr_gatherCalls 26 [.inr 2, .inl v1] [] σ Q := by
  refine fb_iload_n dd_Fr_gatherCalls_26 rfl (fb_aload_n dd_Fr_gatherCalls_27 rfl (by decide) (fb_getR 2 0 dd_Fr_gatherCalls_28 rfl rfl rfl (by decide) lk_Fr_27 (fb_getI (x := σ.1 42) 1 10 dd_Fr_gatherCalls_31 rfl rfl rfl (by decide) lk_Fr_31 rfl ?_)))
  obtain ⟨q1, h⟩ := h
  obtain ⟨q2, h⟩ := h
  refine fb_icmp_ge (tgt := 85) dd_Fr_gatherCalls_34 rfl q1 q2 (fun hc => ?_) (fun hc => ?_)
  · replace h := h.1 hc
    exact fb_vret dd_Fr_gatherCalls_85 rfl h
  · replace h := h.2 hc
    refine fb_aload_n dd_Fr_gatherCalls_37 rfl (by decide) (fb_getR 2 0 dd_Fr_gatherCalls_38 rfl rfl rfl (by decide) lk_Fr_27 (fb_getR 1 5 dd_Fr_gatherCalls_41 rfl rfl rfl (by decide) lk_Fr_37 (fb_iload_n dd_Fr_gatherCalls_44 rfl ?_)))
    obtain ⟨q3, h⟩ := h
    refine fb_ild (x := σ.2 17 v1) dd_Fr_gatherCalls_45 rfl q3 rfl (fb_bipush dd_Fr_gatherCalls_46 (by decide) ?_)
    obtain ⟨q4, h⟩ := h
    refine fb_icmp_ne (tgt := 79) dd_Fr_gatherCalls_48 rfl q4 (by decide) (fun hc => ?_) (fun hc => ?_)
    · replace h := h.1 hc
      refine fb_iinc dd_Fr_gatherCalls_79 rfl rfl rfl (fb_goto (tgt := 26) dd_Fr_gatherCalls_82 rfl ?_)
      exact h
    · replace h := h.2 hc
      refine fb_aload_n dd_Fr_gatherCalls_51 rfl (by decide) (fb_getR 2 1 dd_Fr_gatherCalls_52 rfl rfl rfl (by decide) lk_Fr_9 (fb_bipush dd_Fr_gatherCalls_55 (by decide) (fb_aload_n dd_Fr_gatherCalls_57 rfl (by decide) (fb_getR 2 0 dd_Fr_gatherCalls_58 rfl rfl rfl (by decide) lk_Fr_27 (fb_getR 1 4 dd_Fr_gatherCalls_61 rfl rfl rfl (by decide) lk_Fr_40 (fb_iload_n dd_Fr_gatherCalls_64 rfl (fb_ild (x := σ.2 16 v1) dd_Fr_gatherCalls_65 rfl q3 rfl ?_)))))))
      refine fb_imul dd_Fr_gatherCalls_66 (fb_aload_n dd_Fr_gatherCalls_67 rfl (by decide) (fb_getR 2 0 dd_Fr_gatherCalls_68 rfl rfl rfl (by decide) lk_Fr_27 (fb_getR 1 6 dd_Fr_gatherCalls_71 rfl rfl rfl (by decide) lk_Fr_43 (fb_iload_n dd_Fr_gatherCalls_74 rfl (fb_ild (x := σ.2 18 v1) dd_Fr_gatherCalls_75 rfl q3 rfl (fb_iadd dd_Fr_gatherCalls_76 (fb_iconst dd_Fr_gatherCalls_77 ?_)))))))
      obtain ⟨q5, h⟩ := h
      refine fb_zst dd_Fr_gatherCalls_78 (by decide) rfl q5 (fb_iinc dd_Fr_gatherCalls_79 rfl rfl rfl (fb_goto (tgt := 26) dd_Fr_gatherCalls_82 rfl ?_))
      exact h

theorem Fr_hasRecursion_b0 {E : fb_E} {σ : fb_S} {Q : Int → fb_S → Prop} (h : fb_V E fb_Fr_closeCalls 0 [.inr 2, .inr 999, .inr 999, .inr 999, .inr 999] [] σ (fun _ s2 => fb_V E fb_Fr_hasRecursion 6 [.inr 2, .inl 0] [] s2 Q)) : fb_V E fb_Fr_hasRecursion 0 [.inr 2, .inr 999] [] σ Q := by
  refine fb_aload_n dd_Fr_hasRecursion_0 rfl (by decide) ?_
  refine fb_callVv (z := fb_Fr_closeCalls) (k := 2) (vs := []) (st := []) dd_Fr_hasRecursion_1 vw_Fr_46 (by decide) rfl rfl rfl (np := 0) (by decide +kernel) rfl rfl rfl rfl rfl (fb_mono h (fun r1 s2 h => ?_))
  refine fb_iconst dd_Fr_hasRecursion_4 (fb_istore_n dd_Fr_hasRecursion_5 rfl rfl rfl ?_)
  exact h
theorem Fr_hasRecursion_b6 {E : fb_E} {σ : fb_S} {Q : Int → fb_S → Prop} (v1 : Int) (h : (-2147483648 ≤ v1 ∧ v1 < 2147483648) ∧ ((6 ≤ v1 → Q 0 σ) ∧ (¬ 6 ≤ v1 → (0 ≤ ((6 * v1) + v1) ∧ ((6 * v1) + v1) < 36) ∧ ((-2147483648 ≤ (σ.2 22 ((6 * v1) + v1)) ∧ (σ.2 22 ((6 * v1) + v1)) < 2147483648) ∧ (((σ.2 22 ((6 * v1) + v1)) = 0 → fb_V E fb_Fr_hasRecursion 6 [.inr 2, .inl (v1 + 1)] [] σ Q) ∧ (¬ (σ.2 22 ((6 * v1) + v1)) = 0 → Q 1 σ)))))) : fb_V E fb_Fr_hasRecursion 6 [.inr 2, .inl v1] [] σ Q := by
  refine fb_iload_n dd_Fr_hasRecursion_6 rfl (fb_bipush dd_Fr_hasRecursion_7 (by decide) ?_)
  obtain ⟨q1, h⟩ := h
  refine fb_icmp_ge (tgt := 34) dd_Fr_hasRecursion_9 rfl q1 (by decide) (fun hc => ?_) (fun hc => ?_)
  · replace h := h.1 hc
    refine fb_iconst dd_Fr_hasRecursion_34 ?_
    exact fb_zret dd_Fr_hasRecursion_35 rfl (by decide) h
  · replace h := h.2 hc
    refine fb_aload_n dd_Fr_hasRecursion_12 rfl (by decide) (fb_getR 2 2 dd_Fr_hasRecursion_13 rfl rfl rfl (by decide) lk_Fr_15 (fb_bipush dd_Fr_hasRecursion_16 (by decide) (fb_iload_n dd_Fr_hasRecursion_18 rfl (fb_imul dd_Fr_hasRecursion_19 (fb_iload_n dd_Fr_hasRecursion_20 rfl (fb_iadd dd_Fr_hasRecursion_21 ?_))))))
    obtain ⟨q2, h⟩ := h
    refine fb_zld (x := σ.2 22 ((6 * v1) + v1)) dd_Fr_hasRecursion_22 rfl q2 rfl ?_
    obtain ⟨q3, h⟩ := h
    refine fb_if_eq (tgt := 28) dd_Fr_hasRecursion_23 rfl q3 (fun hc => ?_) (fun hc => ?_)
    · replace h := h.1 hc
      refine fb_iinc dd_Fr_hasRecursion_28 rfl rfl rfl (fb_goto (tgt := 6) dd_Fr_hasRecursion_31 rfl ?_)
      exact h
    · replace h := h.2 hc
      refine fb_iconst dd_Fr_hasRecursion_26 ?_
      exact fb_zret dd_Fr_hasRecursion_27 rfl (by decide) h

theorem Fr_closeCalls_b0 {E : fb_E} {σ : fb_S} {Q : Int → fb_S → Prop} (h : fb_V E fb_Fr_closeCalls 2 [.inr 2, .inl 0, .inr 999, .inr 999, .inr 999] [] σ Q) : fb_V E fb_Fr_closeCalls 0 [.inr 2, .inr 999, .inr 999, .inr 999, .inr 999] [] σ Q := by
  refine fb_iconst dd_Fr_closeCalls_0 (fb_istore_n dd_Fr_closeCalls_1 rfl rfl rfl ?_)
  exact h
theorem Fr_closeCalls_b2 {E : fb_E} {σ : fb_S} {Q : Int → fb_S → Prop} (v1 : Int) (h : (-2147483648 ≤ v1 ∧ v1 < 2147483648) ∧ ((36 ≤ v1 → fb_V E fb_Fr_closeCalls 31 [.inr 2, .inl 0, .inr 999, .inr 999, .inr 999] [] σ Q) ∧ (¬ 36 ≤ v1 → (0 ≤ v1 ∧ v1 < 36) ∧ (((σ.2 21 v1) = 0 ∨ (σ.2 21 v1) = 1) ∧ (fb_V E fb_Fr_closeCalls 2 [.inr 2, .inl (v1 + 1), .inr 999, .inr 999, .inr 999] [] (fb_sm σ 22 v1 (σ.2 21 v1)) Q))))) : fb_V E fb_Fr_closeCalls 2 [.inr 2, .inl v1, .inr 999, .inr 999, .inr 999] [] σ Q := by
  refine fb_iload_n dd_Fr_closeCalls_2 rfl (fb_aload_n dd_Fr_closeCalls_3 rfl (by decide) (fb_getR 2 1 dd_Fr_closeCalls_4 rfl rfl rfl (by decide) lk_Fr_9 (fb_alen (n := 36) dd_Fr_closeCalls_7 rfl (by decide) ?_)))
  obtain ⟨q1, h⟩ := h
  refine fb_icmp_ge (tgt := 29) dd_Fr_closeCalls_8 rfl q1 (by decide) (fun hc => ?_) (fun hc => ?_)
  · replace h := h.1 hc
    refine fb_iconst dd_Fr_closeCalls_29 (fb_istore_n dd_Fr_closeCalls_30 rfl rfl rfl ?_)
    exact h
  · replace h := h.2 hc
    refine fb_aload_n dd_Fr_closeCalls_11 rfl (by decide) (fb_getR 2 2 dd_Fr_closeCalls_12 rfl rfl rfl (by decide) lk_Fr_15 (fb_iload_n dd_Fr_closeCalls_15 rfl (fb_aload_n dd_Fr_closeCalls_16 rfl (by decide) (fb_getR 2 1 dd_Fr_closeCalls_17 rfl rfl rfl (by decide) lk_Fr_9 (fb_iload_n dd_Fr_closeCalls_20 rfl ?_)))))
    obtain ⟨q2, h⟩ := h
    refine fb_zld (x := σ.2 21 v1) dd_Fr_closeCalls_21 rfl q2 rfl ?_
    obtain ⟨q3, h⟩ := h
    refine fb_zst dd_Fr_closeCalls_22 q3 rfl q2 (fb_iinc dd_Fr_closeCalls_23 rfl rfl rfl (fb_goto (tgt := 2) dd_Fr_closeCalls_26 rfl ?_))
    exact h
theorem Fr_closeCalls_b31 {E : fb_E} {σ : fb_S} {Q : Int → fb_S → Prop} (v1 : Int) (h : (-2147483648 ≤ v1 ∧ v1 < 2147483648) ∧ ((6 ≤ v1 → Q 0 σ) ∧ (¬ 6 ≤ v1 → fb_V E fb_Fr_closeCalls 39 [.inr 2, .inl v1, .inl 0, .inr 999, .inr 999] [] σ Q))) : fb_V E fb_Fr_closeCalls 31 [.inr 2, .inl v1, .inr 999, .inr 999, .inr 999] [] σ Q := by
  refine fb_iload_n dd_Fr_closeCalls_31 rfl (fb_bipush dd_Fr_closeCalls_32 (by decide) ?_)
  obtain ⟨q1, h⟩ := h
  refine fb_icmp_ge (tgt := 141) dd_Fr_closeCalls_34 rfl q1 (by decide) (fun hc => ?_) (fun hc => ?_)
  · replace h := h.1 hc
    exact fb_vret dd_Fr_closeCalls_141 rfl h
  · replace h := h.2 hc
    refine fb_iconst dd_Fr_closeCalls_37 (fb_istore_n dd_Fr_closeCalls_38 rfl rfl rfl ?_)
    exact h
theorem Fr_closeCalls_b39 {E : fb_E} {σ : fb_S} {Q : Int → fb_S → Prop} (v1 v2 : Int) (h : (-2147483648 ≤ v2 ∧ v2 < 2147483648) ∧ ((6 ≤ v2 → fb_V E fb_Fr_closeCalls 31 [.inr 2, .inl (v1 + 1), .inr 999, .inr 999, .inr 999] [] σ Q) ∧ (¬ 6 ≤ v2 → fb_V E fb_Fr_closeCalls 47 [.inr 2, .inl v1, .inl v2, .inl 0, .inr 999] [] σ Q))) : fb_V E fb_Fr_closeCalls 39 [.inr 2, .inl v1, .inl v2, .inr 999, .inr 999] [] σ Q := by
  refine fb_iload_n dd_Fr_closeCalls_39 rfl (fb_bipush dd_Fr_closeCalls_40 (by decide) ?_)
  obtain ⟨q1, h⟩ := h
  refine fb_icmp_ge (tgt := 135) dd_Fr_closeCalls_42 rfl q1 (by decide) (fun hc => ?_) (fun hc => ?_)
  · replace h := h.1 hc
    refine fb_iinc dd_Fr_closeCalls_135 rfl rfl rfl (fb_goto (tgt := 31) dd_Fr_closeCalls_138 rfl ?_)
    exact fb_drop (fb_sub_k (fb_sub_k (fb_sub_d (fb_sub_k (fb_sub_k fb_sub_0))))) h
  · replace h := h.2 hc
    refine fb_iconst dd_Fr_closeCalls_45 (fb_istore_n dd_Fr_closeCalls_46 rfl rfl rfl ?_)
    exact h
theorem Fr_closeCalls_b47 {E : fb_E} {σ : fb_S} {Q : Int → fb_S → Prop} (v1 v2 v3 : Int) (h : (-2147483648 ≤ v3 ∧ v3 < 2147483648) ∧ ((6 ≤ v3 → fb_V E fb_Fr_closeCalls 39 [.inr 2, .inl v1, .inl (v2 + 1), .inr 999, .inr 999] [] σ Q) ∧ (¬ 6 ≤ v3 → (0 ≤ ((6 * v2) + v1) ∧ ((6 * v2) + v1) < 36) ∧ ((-2147483648 ≤ (σ.2 22 ((6 * v2) + v1)) ∧ (σ.2 22 ((6 * v2) + v1)) < 2147483648) ∧ (((σ.2 22 ((6 * v2) + v1)) = 0 → (0 ≤ ((6 * v2) + v3) ∧ ((6 * v2) + v3) < 36) ∧ ((-2147483648 ≤ (σ.2 22 ((6 * v2) + v3)) ∧ (σ.2 22 ((6 * v2) + v3)) < 2147483648) ∧ ((¬ (σ.2 22 ((6 * v2) + v3)) = 0 → fb_V E fb_Fr_closeCalls 47 [.inr 2, .inl v1, .inl v2, .inl (v3 + 1), .inr 999] [] (fb_sm σ 22 ((6 * v2) + v3) 1) Q) ∧ ((σ.2 22 ((6 * v2) + v3)) = 0 → fb_V E fb_Fr_closeCalls 47 [.inr 2, .inl v1, .inl v2, .inl (v3 + 1), .inr 999] [] (fb_sm σ 22 ((6 * v2) + v3) 0) Q)))) ∧ (¬ (σ.2 22 ((6 * v2) + v1)) = 0 → (0 ≤ ((6 * v1) + v3) ∧ ((6 * v1) + v3) < 36) ∧ ((-2147483648 ≤ (σ.2 22 ((6 * v1) + v3)) ∧ (σ.2 22 ((6 * v1) + v3)) < 2147483648) ∧ (((σ.2 22 ((6 * v1) + v3)) = 0 → (0 ≤ ((6 * v2) + v3) ∧ ((6 * v2) + v3) < 36) ∧ ((-2147483648 ≤ (σ.2 22 ((6 * v2) + v3)) ∧ (σ.2 22 ((6 * v2) + v3)) < 2147483648) ∧ ((¬ (σ.2 22 ((6 * v2) + v3)) = 0 → fb_V E fb_Fr_closeCalls 47 [.inr 2, .inl v1, .inl v2, .inl (v3 + 1), .inr 999] [] (fb_sm σ 22 ((6 * v2) + v3) 1) Q) ∧ ((σ.2 22 ((6 * v2) + v3)) = 0 → fb_V E fb_Fr_closeCalls 47 [.inr 2, .inl v1, .inl v2, .inl (v3 + 1), .inr 999] [] (fb_sm σ 22 ((6 * v2) + v3) 0) Q)))) ∧ (¬ (σ.2 22 ((6 * v1) + v3)) = 0 → (0 ≤ ((6 * v2) + v3) ∧ ((6 * v2) + v3) < 36) ∧ ((-2147483648 ≤ (σ.2 22 ((6 * v2) + v3)) ∧ (σ.2 22 ((6 * v2) + v3)) < 2147483648) ∧ ((¬ (σ.2 22 ((6 * v2) + v3)) = 0 → fb_V E fb_Fr_closeCalls 47 [.inr 2, .inl v1, .inl v2, .inl (v3 + 1), .inr 999] [] (fb_sm σ 22 ((6 * v2) + v3) 1) Q) ∧ ((σ.2 22 ((6 * v2) + v3)) = 0 → fb_V E fb_Fr_closeCalls 47 [.inr 2, .inl v1, .inl v2, .inl (v3 + 1), .inr 999] [] (fb_sm σ 22 ((6 * v2) + v3) 1) Q)))))))))))) : fb_V E fb_Fr_closeCalls 47 [.inr 2, .inl v1, .inl v2, .inl v3, .inr 999] [] σ Q := by
  refine fb_iload_n dd_Fr_closeCalls_47 rfl (fb_bipush dd_Fr_closeCalls_48 (by decide) ?_)
  obtain ⟨q1, h⟩ := h
  refine fb_icmp_ge (tgt := 129) dd_Fr_closeCalls_50 rfl q1 (by decide) (fun hc => ?_) (fun hc => ?_)
  · replace h := h.1 hc
    refine fb_iinc dd_Fr_closeCalls_129 rfl rfl rfl (fb_goto (tgt := 39) dd_Fr_closeCalls_132 rfl ?_)
    exact fb_drop (fb_sub_k (fb_sub_k (fb_sub_k (fb_sub_d (fb_sub_k fb_sub_0))))) h
  · replace h := h.2 hc
    refine fb_aload_n dd_Fr_closeCalls_53 rfl (by decide) (fb_getR 2 2 dd_Fr_closeCalls_54 rfl rfl rfl (by decide) lk_Fr_15 (fb_bipush dd_Fr_closeCalls_57 (by decide) (fb_iload_n dd_Fr_closeCalls_59 rfl (fb_imul dd_Fr_closeCalls_60 (fb_iload_n dd_Fr_closeCalls_61 rfl (fb_iadd dd_Fr_closeCalls_62 ?_))))))
    obtain ⟨q2, h⟩ := h
    refine fb_zld (x := σ.2 22 ((6 * v2) + v1)) dd_Fr_closeCalls_63 rfl q2 rfl ?_
    obtain ⟨q3, h⟩ := h
    refine fb_if_eq (tgt := 85) dd_Fr_closeCalls_64 rfl q3 (fun hc => ?_) (fun hc => ?_)
    · replace h := h.1 hc
      refine fb_iconst dd_Fr_closeCalls_85 (fb_istore dd_Fr_closeCalls_86 rfl rfl rfl (fb_aload_n dd_Fr_closeCalls_88 rfl (by decide) (fb_getR 2 2 dd_Fr_closeCalls_89 rfl rfl rfl (by decide) lk_Fr_15 (fb_bipush dd_Fr_closeCalls_92 (by decide) (fb_iload_n dd_Fr_closeCalls_94 rfl (fb_imul dd_Fr_closeCalls_95 (fb_iload_n dd_Fr_closeCalls_96 rfl ?_)))))))
      refine fb_iadd dd_Fr_closeCalls_97 (fb_aload_n dd_Fr_closeCalls_98 rfl (by decide) (fb_getR 2 2 dd_Fr_closeCalls_99 rfl rfl rfl (by decide) lk_Fr_15 (fb_bipush dd_Fr_closeCalls_102 (by decide) (fb_iload_n dd_Fr_closeCalls_104 rfl (fb_imul dd_Fr_closeCalls_105 (fb_iload_n dd_Fr_closeCalls_106 rfl (fb_iadd dd_Fr_closeCalls_107 ?_)))))))
      obtain ⟨q4, h⟩ := h
      refine fb_zld (x := σ.2 22 ((6 * v2) + v3)) dd_Fr_closeCalls_108 rfl q4 rfl ?_
      obtain ⟨q5, h⟩ := h
      refine fb_if_ne (tgt := 117) dd_Fr_closeCalls_109 rfl q5 (fun hc => ?_) (fun hc => ?_)
      · replace h := h.1 hc
        refine fb_iconst dd_Fr_closeCalls_117 (fb_goto (tgt := 122) dd_Fr_closeCalls_118 rfl (fb_zst dd_Fr_closeCalls_122 (by decide) rfl q4 (fb_iinc dd_Fr_closeCalls_123 rfl rfl rfl (fb_goto (tgt := 47) dd_Fr_closeCalls_126 rfl ?_))))
        exact fb_drop (fb_sub_k (fb_sub_k (fb_sub_k (fb_sub_k (fb_sub_d fb_sub_0))))) h
      · replace h := h.2 hc
        refine fb_iload dd_Fr_closeCalls_112 rfl ?_
        refine fb_if_eq (tgt := 121) dd_Fr_closeCalls_114 rfl (by decide) (fun _ => ?_) (fun hz => absurd hz (by decide))
        refine fb_iconst dd_Fr_closeCalls_121 (fb_zst dd_Fr_closeCalls_122 (by decide) rfl q4 (fb_iinc dd_Fr_closeCalls_123 rfl rfl rfl (fb_goto (tgt := 47) dd_Fr_closeCalls_126 rfl ?_)))
        exact fb_drop (fb_sub_k (fb_sub_k (fb_sub_k (fb_sub_k (fb_sub_d fb_sub_0))))) h
    · replace h := h.2 hc
      refine fb_aload_n dd_Fr_closeCalls_67 rfl (by decide) (fb_getR 2 2 dd_Fr_closeCalls_68 rfl rfl rfl (by decide) lk_Fr_15 (fb_bipush dd_Fr_closeCalls_71 (by decide) (fb_iload_n dd_Fr_closeCalls_73 rfl (fb_imul dd_Fr_closeCalls_74 (fb_iload_n dd_Fr_closeCalls_75 rfl (fb_iadd dd_Fr_closeCalls_76 ?_))))))
      obtain ⟨q6, h⟩ := h
      refine fb_zld (x := σ.2 22 ((6 * v1) + v3)) dd_Fr_closeCalls_77 rfl q6 rfl ?_
      obtain ⟨q7, h⟩ := h
      refine fb_if_eq (tgt := 85) dd_Fr_closeCalls_78 rfl q7 (fun hc => ?_) (fun hc => ?_)
      · replace h := h.1 hc
        refine fb_iconst dd_Fr_closeCalls_85 (fb_istore dd_Fr_closeCalls_86 rfl rfl rfl (fb_aload_n dd_Fr_closeCalls_88 rfl (by decide) (fb_getR 2 2 dd_Fr_closeCalls_89 rfl rfl rfl (by decide) lk_Fr_15 (fb_bipush dd_Fr_closeCalls_92 (by decide) (fb_iload_n dd_Fr_closeCalls_94 rfl (fb_imul dd_Fr_closeCalls_95 (fb_iload_n dd_Fr_closeCalls_96 rfl ?_)))))))
        refine fb_iadd dd_Fr_closeCalls_97 (fb_aload_n dd_Fr_closeCalls_98 rfl (by decide) (fb_getR 2 2 dd_Fr_closeCalls_99 rfl rfl rfl (by decide) lk_Fr_15 (fb_bipush dd_Fr_closeCalls_102 (by decide) (fb_iload_n dd_Fr_closeCalls_104 rfl (fb_imul dd_Fr_closeCalls_105 (fb_iload_n dd_Fr_closeCalls_106 rfl (fb_iadd dd_Fr_closeCalls_107 ?_)))))))
        obtain ⟨q8, h⟩ := h
        refine fb_zld (x := σ.2 22 ((6 * v2) + v3)) dd_Fr_closeCalls_108 rfl q8 rfl ?_
        obtain ⟨q9, h⟩ := h
        refine fb_if_ne (tgt := 117) dd_Fr_closeCalls_109 rfl q9 (fun hc => ?_) (fun hc => ?_)
        · replace h := h.1 hc
          refine fb_iconst dd_Fr_closeCalls_117 (fb_goto (tgt := 122) dd_Fr_closeCalls_118 rfl (fb_zst dd_Fr_closeCalls_122 (by decide) rfl q8 (fb_iinc dd_Fr_closeCalls_123 rfl rfl rfl (fb_goto (tgt := 47) dd_Fr_closeCalls_126 rfl ?_))))
          exact fb_drop (fb_sub_k (fb_sub_k (fb_sub_k (fb_sub_k (fb_sub_d fb_sub_0))))) h
        · replace h := h.2 hc
          refine fb_iload dd_Fr_closeCalls_112 rfl ?_
          refine fb_if_eq (tgt := 121) dd_Fr_closeCalls_114 rfl (by decide) (fun _ => ?_) (fun hz => absurd hz (by decide))
          refine fb_iconst dd_Fr_closeCalls_121 (fb_zst dd_Fr_closeCalls_122 (by decide) rfl q8 (fb_iinc dd_Fr_closeCalls_123 rfl rfl rfl (fb_goto (tgt := 47) dd_Fr_closeCalls_126 rfl ?_)))
          exact fb_drop (fb_sub_k (fb_sub_k (fb_sub_k (fb_sub_k (fb_sub_d fb_sub_0))))) h
      · replace h := h.2 hc
        refine fb_iconst dd_Fr_closeCalls_81 (fb_goto (tgt := 86) dd_Fr_closeCalls_82 rfl (fb_istore dd_Fr_closeCalls_86 rfl rfl rfl (fb_aload_n dd_Fr_closeCalls_88 rfl (by decide) (fb_getR 2 2 dd_Fr_closeCalls_89 rfl rfl rfl (by decide) lk_Fr_15 (fb_bipush dd_Fr_closeCalls_92 (by decide) (fb_iload_n dd_Fr_closeCalls_94 rfl (fb_imul dd_Fr_closeCalls_95 ?_)))))))
        refine fb_iload_n dd_Fr_closeCalls_96 rfl (fb_iadd dd_Fr_closeCalls_97 (fb_aload_n dd_Fr_closeCalls_98 rfl (by decide) (fb_getR 2 2 dd_Fr_closeCalls_99 rfl rfl rfl (by decide) lk_Fr_15 (fb_bipush dd_Fr_closeCalls_102 (by decide) (fb_iload_n dd_Fr_closeCalls_104 rfl (fb_imul dd_Fr_closeCalls_105 (fb_iload_n dd_Fr_closeCalls_106 rfl ?_)))))))
        refine fb_iadd dd_Fr_closeCalls_107 ?_
        obtain ⟨q10, h⟩ := h
        refine fb_zld (x := σ.2 22 ((6 * v2) + v3)) dd_Fr_closeCalls_108 rfl q10 rfl ?_
        obtain ⟨q11, h⟩ := h
        refine fb_if_ne (tgt := 117) dd_Fr_closeCalls_109 rfl q11 (fun hc => ?_) (fun hc => ?_)
        · replace h := h.1 hc
          refine fb_iconst dd_Fr_closeCalls_117 (fb_goto (tgt := 122) dd_Fr_closeCalls_118 rfl (fb_zst dd_Fr_closeCalls_122 (by decide) rfl q10 (fb_iinc dd_Fr_closeCalls_123 rfl rfl rfl (fb_goto (tgt := 47) dd_Fr_closeCalls_126 rfl ?_))))
          exact fb_drop (fb_sub_k (fb_sub_k (fb_sub_k (fb_sub_k (fb_sub_d fb_sub_0))))) h
        · replace h := h.2 hc
          refine fb_iload dd_Fr_closeCalls_112 rfl ?_
          refine fb_if_eq (tgt := 121) dd_Fr_closeCalls_114 rfl (by decide) (fun hz => absurd hz (by decide)) (fun _ => ?_)
          refine fb_iconst dd_Fr_closeCalls_117 (fb_goto (tgt := 122) dd_Fr_closeCalls_118 rfl (fb_zst dd_Fr_closeCalls_122 (by decide) rfl q10 (fb_iinc dd_Fr_closeCalls_123 rfl rfl rfl (fb_goto (tgt := 47) dd_Fr_closeCalls_126 rfl ?_))))
          exact fb_drop (fb_sub_k (fb_sub_k (fb_sub_k (fb_sub_k (fb_sub_d fb_sub_0))))) h

theorem Fr_findBases_b0 {E : fb_E} {σ : fb_S} {Q : Int → fb_S → Prop} (h : fb_V E fb_Ja_fill 0 [.inr 23, .inl 0, .inr 999, .inr 999] [] σ (fun _ s2 => fb_V E fb_Fr_findBases 10 [.inr 2, .inl 0, .inr 999] [] s2 Q)) : fb_V E fb_Fr_findBases 0 [.inr 2, .inr 999, .inr 999] [] σ Q := by
  refine fb_aload_n dd_Fr_findBases_0 rfl (by decide) (fb_getR 2 3 dd_Fr_findBases_1 rfl rfl rfl (by decide) lk_Fr_18 (fb_iconst dd_Fr_findBases_4 ?_))
  refine fb_callSv (z := fb_Ja_fill) (vs := [.inr 23, .inl 0]) (st := []) dd_Fr_findBases_5 sw_Fr_49 (by decide) rfl (np := 2) (by decide +kernel) rfl rfl rfl rfl rfl (fb_mono h (fun r1 s2 h => ?_))
  refine fb_iconst dd_Fr_findBases_8 (fb_istore_n dd_Fr_findBases_9 rfl rfl rfl ?_)
  exact h
theorem Fr_findBases_b10 {E : fb_E} {σ : fb_S} {Q : Int → fb_S → Prop} (v1 : Int) (h : (-2147483648 ≤ v1 ∧ v1 < 2147483648) ∧ ((6 ≤ v1 → Q 0 σ) ∧ (¬ 6 ≤ v1 → fb_V E fb_Fr_findBases 18 [.inr 2, .inl v1, .inl 0] [] σ Q))) : fb_V E fb_Fr_findBases 10 [.inr 2, .inl v1, .inr 999] [] σ Q := by
  refine fb_iload_n dd_Fr_findBases_10 rfl (fb_bipush dd_Fr_findBases_11 (by decide) ?_)
  obtain ⟨q1, h⟩ := h
  refine fb_icmp_ge (tgt := 46) dd_Fr_findBases_13 rfl q1 (by decide) (fun hc => ?_) (fun hc => ?_)
  · replace h := h.1 hc
    exact fb_vret dd_Fr_findBases_46 rfl h
  · replace h := h.2 hc
    refine fb_iconst dd_Fr_findBases_16 (fb_istore_n dd_Fr_findBases_17 rfl rfl rfl ?_)
    exact h
theorem Fr_findBases_b18 {E : fb_E} {σ : fb_S} {Q : Int → fb_S → Prop} (v1 v2 : Int) (h : (-2147483648 ≤ v2 ∧ v2 < 2147483648) ∧ ((-2147483648 ≤ (σ.1 41) ∧ (σ.1 41) < 2147483648) ∧ (((σ.1 41) ≤ v2 → fb_V E fb_Fr_findBases 10 [.inr 2, .inl (v1 + 1), .inr 999] [] σ Q) ∧ (¬ (σ.1 41) ≤ v2 → fb_V E fb_Fr_pushCallees 0 [.inr 2, .inl v2, .inr 999] [] σ (fun _ s4 => fb_V E fb_Fr_findBases 18 [.inr 2, .inl v1, .inl (v2 + 1)] [] s4 Q))))) : fb_V E fb_Fr_findBases 18 [.inr 2, .inl v1, .inl v2] [] σ Q := by
  refine fb_iload_n dd_Fr_findBases_18 rfl (fb_aload_n dd_Fr_findBases_19 rfl (by decide) (fb_getR 2 0 dd_Fr_findBases_20 rfl rfl rfl (by decide) lk_Fr_27 (fb_getI (x := σ.1 41) 1 9 dd_Fr_findBases_23 rfl rfl rfl (by decide) lk_Fr_55 rfl ?_)))
  obtain ⟨q1, h⟩ := h
  obtain ⟨q2, h⟩ := h
  refine fb_icmp_ge (tgt := 40) dd_Fr_findBases_26 rfl q1 q2 (fun hc => ?_) (fun hc => ?_)
  · replace h := h.1 hc
    refine fb_iinc dd_Fr_findBases_40 rfl rfl rfl (fb_goto (tgt := 10) dd_Fr_findBases_43 rfl ?_)
    exact fb_drop (fb_sub_k (fb_sub_k (fb_sub_d fb_sub_0))) h
  · replace h := h.2 hc
    refine fb_aload_n dd_Fr_findBases_29 rfl (by decide) (fb_iload_n dd_Fr_findBases_30 rfl ?_)
    refine fb_callVv (z := fb_Fr_pushCallees) (k := 2) (vs := [.inl v2]) (st := []) dd_Fr_findBases_31 vw_Fr_58 (by decide) rfl rfl rfl (np := 1) (by decide +kernel) rfl rfl rfl rfl rfl (fb_mono h (fun r3 s4 h => ?_))
    refine fb_iinc dd_Fr_findBases_34 rfl rfl rfl (fb_goto (tgt := 18) dd_Fr_findBases_37 rfl ?_)
    exact h

theorem Fr_pushCallees_b0 {E : fb_E} {σ : fb_S} {Q : Int → fb_S → Prop} (v1 : Int) (h : fb_V E fb_Fr_pushCallees 2 [.inr 2, .inl v1, .inl 1] [] σ Q) : fb_V E fb_Fr_pushCallees 0 [.inr 2, .inl v1, .inr 999] [] σ Q := by
  refine fb_iconst dd_Fr_pushCallees_0 (fb_istore_n dd_Fr_pushCallees_1 rfl rfl rfl ?_)
  exact h
theorem Fr_pushCallees_b2 {E : fb_E} {σ : fb_S} {Q : Int → fb_S → Prop} (v1 v2 : Int) (h : (-2147483648 ≤ v2 ∧ v2 < 2147483648) ∧ ((6 ≤ v2 → Q 0 σ) ∧ (¬ 6 ≤ v2 → (0 ≤ ((6 * v1) + v2) ∧ ((6 * v1) + v2) < 36) ∧ ((-2147483648 ≤ (σ.2 21 ((6 * v1) + v2)) ∧ (σ.2 21 ((6 * v1) + v2)) < 2147483648) ∧ (((σ.2 21 ((6 * v1) + v2)) = 0 → fb_V E fb_Fr_pushCallees 2 [.inr 2, .inl v1, .inl (v2 + 1)] [] σ Q) ∧ (¬ (σ.2 21 ((6 * v1) + v2)) = 0 → (0 ≤ v2 ∧ v2 < 6) ∧ (fb_V E fb_Fr_endOf 0 [.inr 2, .inl v1] [] σ (fun r5 s6 => (-2147483648 ≤ (σ.2 23 v2) ∧ (σ.2 23 v2) < 2147483648) ∧ ((-2147483648 ≤ r5 ∧ r5 < 2147483648) ∧ (fb_V E fb_Fr_pushCallees 2 [.inr 2, .inl v1, .inl (v2 + 1)] [] (fb_sm s6 23 v2 (if (σ.2 23 v2) < r5 then r5 else (σ.2 23 v2))) Q)))))))))) : fb_V E fb_Fr_pushCallees 2 [.inr 2, .inl v1, .inl v2] [] σ Q := by
  refine fb_iload_n dd_Fr_pushCallees_2 rfl (fb_bipush dd_Fr_pushCallees_3 (by decide) ?_)
  obtain ⟨q1, h⟩ := h
  refine fb_icmp_ge (tgt := 48) dd_Fr_pushCallees_5 rfl q1 (by decide) (fun hc => ?_) (fun hc => ?_)
  · replace h := h.1 hc
    exact fb_vret dd_Fr_pushCallees_48 rfl h
  · replace h := h.2 hc
    refine fb_aload_n dd_Fr_pushCallees_8 rfl (by decide) (fb_getR 2 1 dd_Fr_pushCallees_9 rfl rfl rfl (by decide) lk_Fr_9 (fb_bipush dd_Fr_pushCallees_12 (by decide) (fb_iload_n dd_Fr_pushCallees_14 rfl (fb_imul dd_Fr_pushCallees_15 (fb_iload_n dd_Fr_pushCallees_16 rfl (fb_iadd dd_Fr_pushCallees_17 ?_))))))
    obtain ⟨q2, h⟩ := h
    refine fb_zld (x := σ.2 21 ((6 * v1) + v2)) dd_Fr_pushCallees_18 rfl q2 rfl ?_
    obtain ⟨q3, h⟩ := h
    refine fb_if_eq (tgt := 42) dd_Fr_pushCallees_19 rfl q3 (fun hc => ?_) (fun hc => ?_)
    · replace h := h.1 hc
      refine fb_iinc dd_Fr_pushCallees_42 rfl rfl rfl (fb_goto (tgt := 2) dd_Fr_pushCallees_45 rfl ?_)
      exact h
    · replace h := h.2 hc
      refine fb_aload_n dd_Fr_pushCallees_22 rfl (by decide) (fb_getR 2 3 dd_Fr_pushCallees_23 rfl rfl rfl (by decide) lk_Fr_18 (fb_iload_n dd_Fr_pushCallees_26 rfl (fb_aload_n dd_Fr_pushCallees_27 rfl (by decide) (fb_getR 2 3 dd_Fr_pushCallees_28 rfl rfl rfl (by decide) lk_Fr_18 (fb_iload_n dd_Fr_pushCallees_31 rfl ?_)))))
      obtain ⟨q4, h⟩ := h
      refine fb_ild (x := σ.2 23 v2) dd_Fr_pushCallees_32 rfl q4 rfl (fb_aload_n dd_Fr_pushCallees_33 rfl (by decide) (fb_iload_n dd_Fr_pushCallees_34 rfl ?_))
      refine fb_callVi (z := fb_Fr_endOf) (k := 2) (vs := [.inl v1]) (st := [.inl (σ.2 23 v2), .inl v2, .inr 23]) dd_Fr_pushCallees_35 vw_Fr_62 (by decide) ⟨_, rfl⟩ rfl rfl (np := 1) (by decide +kernel) rfl rfl rfl rfl rfl (fb_mono h (fun r5 s6 h => ?_))
      obtain ⟨q7, h⟩ := h
      obtain ⟨q8, h⟩ := h
      refine fb_max dd_Fr_pushCallees_38 ⟨sw_Fr_66, by decide, rfl⟩ q7 q8 (fb_ist dd_Fr_pushCallees_41 rfl q4 (fb_iinc dd_Fr_pushCallees_42 rfl rfl rfl (fb_goto (tgt := 2) dd_Fr_pushCallees_45 rfl ?_)))
      exact h

theorem Fr_endOf_b0 {E : fb_E} {σ : fb_S} {Q : Int → fb_S → Prop} (v1 : Int) (h : (0 ≤ v1 ∧ v1 < 6) ∧ (fb_V E fb_Pr_frameSizeOf 0 [.inr 1, .inl v1, .inr 999, .inr 999] [] σ (fun r2 s3 => Q ((σ.2 23 v1) + r2) s3))) : fb_V E fb_Fr_endOf 0 [.inr 2, .inl v1] [] σ Q := by
  refine fb_aload_n dd_Fr_endOf_0 rfl (by decide) (fb_getR 2 3 dd_Fr_endOf_1 rfl rfl rfl (by decide) lk_Fr_18 (fb_iload_n dd_Fr_endOf_4 rfl ?_))
  obtain ⟨q1, h⟩ := h
  refine fb_ild (x := σ.2 23 v1) dd_Fr_endOf_5 rfl q1 rfl (fb_aload_n dd_Fr_endOf_6 rfl (by decide) (fb_getR 2 0 dd_Fr_endOf_7 rfl rfl rfl (by decide) lk_Fr_27 (fb_iload_n dd_Fr_endOf_10 rfl ?_)))
  refine fb_callVi (z := fb_Pr_frameSizeOf) (k := 1) (vs := [.inl v1]) (st := [.inl (σ.2 23 v1)]) dd_Fr_endOf_11 vw_Fr_72 (by decide) ⟨_, rfl⟩ rfl rfl (np := 1) (by decide +kernel) rfl rfl rfl rfl rfl (fb_mono h (fun r2 s3 h => ?_))
  refine fb_iadd dd_Fr_endOf_14 ?_
  exact fb_iret dd_Fr_endOf_15 rfl h

theorem Fr_fit_b0 {E : fb_E} {σ : fb_S} {Q : Int → fb_S → Prop} (h : fb_V E fb_Fr_fit 2 [.inr 2, .inl 0] [] σ Q) : fb_V E fb_Fr_fit 0 [.inr 2, .inr 999] [] σ Q := by
  refine fb_iconst dd_Fr_fit_0 (fb_istore_n dd_Fr_fit_1 rfl rfl rfl ?_)
  exact h
theorem Fr_fit_b2 {E : fb_E} {σ : fb_S} {Q : Int → fb_S → Prop} (v1 : Int) (h : (-2147483648 ≤ v1 ∧ v1 < 2147483648) ∧ ((-2147483648 ≤ (σ.1 41) ∧ (σ.1 41) < 2147483648) ∧ (((σ.1 41) ≤ v1 → Q 1 σ) ∧ (¬ (σ.1 41) ≤ v1 → fb_V E fb_Fr_endOf 0 [.inr 2, .inl v1] [] σ (fun r3 s4 => (-2147483648 ≤ r3 ∧ r3 < 2147483648) ∧ ((r3 ≤ 120 → fb_V E fb_Fr_fit 2 [.inr 2, .inl (v1 + 1)] [] s4 Q) ∧ (¬ r3 ≤ 120 → Q 0 s4))))))) : fb_V E fb_Fr_fit 2 [.inr 2, .inl v1] [] σ Q := by
  refine fb_iload_n dd_Fr_fit_2 rfl (fb_aload_n dd_Fr_fit_3 rfl (by decide) (fb_getR 2 0 dd_Fr_fit_4 rfl rfl rfl (by decide) lk_Fr_27 (fb_getI (x := σ.1 41) 1 9 dd_Fr_fit_7 rfl rfl rfl (by decide) lk_Fr_55 rfl ?_)))
  obtain ⟨q1, h⟩ := h
  obtain ⟨q2, h⟩ := h
  refine fb_icmp_ge (tgt := 31) dd_Fr_fit_10 rfl q1 q2 (fun hc => ?_) (fun hc => ?_)
  · replace h := h.1 hc
    refine fb_iconst dd_Fr_fit_31 ?_
    exact fb_zret dd_Fr_fit_32 rfl (by decide) h
  · replace h := h.2 hc
    refine fb_aload_n dd_Fr_fit_13 rfl (by decide) (fb_iload_n dd_Fr_fit_14 rfl ?_)
    refine fb_callVi (z := fb_Fr_endOf) (k := 2) (vs := [.inl v1]) (st := []) dd_Fr_fit_15 vw_Fr_62 (by decide) ⟨_, rfl⟩ rfl rfl (np := 1) (by decide +kernel) rfl rfl rfl rfl rfl (fb_mono h (fun r3 s4 h => ?_))
    refine fb_bipush dd_Fr_fit_18 (by decide) ?_
    obtain ⟨q5, h⟩ := h
    refine fb_icmp_le (tgt := 25) dd_Fr_fit_20 rfl q5 (by decide) (fun hc => ?_) (fun hc => ?_)
    · replace h := h.1 hc
      refine fb_iinc dd_Fr_fit_25 rfl rfl rfl (fb_goto (tgt := 2) dd_Fr_fit_28 rfl ?_)
      exact h
    · replace h := h.2 hc
      refine fb_iconst dd_Fr_fit_23 ?_
      exact fb_zret dd_Fr_fit_24 rfl (by decide) h

theorem Fr_placeVariables_b0 {E : fb_E} {σ : fb_S} {Q : Int → fb_S → Prop} (h : fb_V E fb_Fr_placeVariables 2 [.inr 2, .inl 0, .inr 999, .inr 999] [] σ Q) : fb_V E fb_Fr_placeVariables 0 [.inr 2, .inr 999, .inr 999, .inr 999] [] σ Q := by
  refine fb_iconst dd_Fr_placeVariables_0 (fb_istore_n dd_Fr_placeVariables_1 rfl rfl rfl ?_)
  exact h
theorem Fr_placeVariables_b2 {E : fb_E} {σ : fb_S} {Q : Int → fb_S → Prop} (v1 : Int) (h : (-2147483648 ≤ v1 ∧ v1 < 2147483648) ∧ ((-2147483648 ≤ (σ.1 41) ∧ (σ.1 41) < 2147483648) ∧ (((σ.1 41) ≤ v1 → Q 0 σ) ∧ (¬ (σ.1 41) ≤ v1 → (0 ≤ v1 ∧ v1 < 6) ∧ (fb_V E fb_Fr_placeVariables 22 [.inr 2, .inl v1, .inl (σ.2 23 v1), .inl 0] [] σ Q))))) : fb_V E fb_Fr_placeVariables 2 [.inr 2, .inl v1, .inr 999, .inr 999] [] σ Q := by
  refine fb_iload_n dd_Fr_placeVariables_2 rfl (fb_aload_n dd_Fr_placeVariables_3 rfl (by decide) (fb_getR 2 0 dd_Fr_placeVariables_4 rfl rfl rfl (by decide) lk_Fr_27 (fb_getI (x := σ.1 41) 1 9 dd_Fr_placeVariables_7 rfl rfl rfl (by decide) lk_Fr_55 rfl ?_)))
  obtain ⟨q1, h⟩ := h
  obtain ⟨q2, h⟩ := h
  refine fb_icmp_ge (tgt := 70) dd_Fr_placeVariables_10 rfl q1 q2 (fun hc => ?_) (fun hc => ?_)
  · replace h := h.1 hc
    exact fb_vret dd_Fr_placeVariables_70 rfl h
  · replace h := h.2 hc
    refine fb_aload_n dd_Fr_placeVariables_13 rfl (by decide) (fb_getR 2 3 dd_Fr_placeVariables_14 rfl rfl rfl (by decide) lk_Fr_18 (fb_iload_n dd_Fr_placeVariables_17 rfl ?_))
    obtain ⟨q3, h⟩ := h
    refine fb_ild (x := σ.2 23 v1) dd_Fr_placeVariables_18 rfl q3 rfl (fb_istore_n dd_Fr_placeVariables_19 rfl rfl rfl (fb_iconst dd_Fr_placeVariables_20 (fb_istore_n dd_Fr_placeVariables_21 rfl rfl rfl ?_)))
    exact h
theorem Fr_placeVariables_b22 {E : fb_E} {σ : fb_S} {Q : Int → fb_S → Prop} (v1 v2 v3 : Int) (h : (0 ≤ v1 ∧ v1 < 6) ∧ ((-2147483648 ≤ v3 ∧ v3 < 2147483648) ∧ ((-2147483648 ≤ (σ.2 13 v1) ∧ (σ.2 13 v1) < 2147483648) ∧ (((σ.2 13 v1) ≤ v3 → fb_V E fb_Fr_placeVariables 2 [.inr 2, .inl (v1 + 1), .inr 999, .inr 999] [] σ Q) ∧ (¬ (σ.2 13 v1) ≤ v3 → (0 ≤ v3 ∧ v3 < 6) ∧ (fb_V E fb_Fr_placeVariables 22 [.inr 2, .inl v1, .inl (v2 + ((fb_sm σ (25 + (v1).toNat) v3 v2).2 (7 + (v1).toNat) v3)), .inl (v3 + 1)] [] (fb_sm σ (25 + (v1).toNat) v3 v2) Q)))))) : fb_V E fb_Fr_placeVariables 22 [.inr 2, .inl v1, .inl v2, .inl v3] [] σ Q := by
  refine fb_iload_n dd_Fr_placeVariables_22 rfl (fb_aload_n dd_Fr_placeVariables_23 rfl (by decide) (fb_getR 2 0 dd_Fr_placeVariables_24 rfl rfl rfl (by decide) lk_Fr_27 (fb_getR 1 1 dd_Fr_placeVariables_27 rfl rfl rfl (by decide) lk_Fr_75 (fb_iload_n dd_Fr_placeVariables_30 rfl ?_))))
  obtain ⟨q1, h⟩ := h
  refine fb_ild (x := σ.2 13 v1) dd_Fr_placeVariables_31 rfl q1 rfl ?_
  obtain ⟨q2, h⟩ := h
  obtain ⟨q3, h⟩ := h
  refine fb_icmp_ge (tgt := 64) dd_Fr_placeVariables_32 rfl q2 q3 (fun hc => ?_) (fun hc => ?_)
  · replace h := h.1 hc
    refine fb_iinc dd_Fr_placeVariables_64 rfl rfl rfl (fb_goto (tgt := 2) dd_Fr_placeVariables_67 rfl ?_)
    exact fb_drop (fb_sub_k (fb_sub_k (fb_sub_d (fb_sub_d fb_sub_0)))) h
  · replace h := h.2 hc
    refine fb_aload_n dd_Fr_placeVariables_35 rfl (by decide) (fb_getR 2 4 dd_Fr_placeVariables_36 rfl rfl rfl (by decide) lk_Fr_24 (fb_iload_n dd_Fr_placeVariables_39 rfl (fb_ald dd_Fr_placeVariables_40 rfl q1 (fb_iload_n dd_Fr_placeVariables_41 rfl (fb_iload_n dd_Fr_placeVariables_42 rfl ?_)))))
    obtain ⟨q4, h⟩ := h
    refine fb_ist dd_Fr_placeVariables_43 (fb_row25 q1) q4 (fb_iload_n dd_Fr_placeVariables_44 rfl (fb_aload_n dd_Fr_placeVariables_45 rfl (by decide) (fb_getR 2 0 dd_Fr_placeVariables_46 rfl rfl rfl (by decide) lk_Fr_27 (fb_getR 1 0 dd_Fr_placeVariables_49 rfl rfl rfl (by decide) lk_Fr_78 (fb_iload_n dd_Fr_placeVariables_52 rfl (fb_ald dd_Fr_placeVariables_53 rfl q1 (fb_iload_n dd_Fr_placeVariables_54 rfl ?_)))))))
    refine fb_ild (x := (fb_sm σ (25 + (v1).toNat) v3 v2).2 (7 + (v1).toNat) v3) dd_Fr_placeVariables_55 (fb_row7 q1) q4 rfl (fb_iadd dd_Fr_placeVariables_56 (fb_istore_n dd_Fr_placeVariables_57 rfl rfl rfl (fb_iinc dd_Fr_placeVariables_58 rfl rfl rfl (fb_goto (tgt := 22) dd_Fr_placeVariables_61 rfl ?_))))
    exact h
