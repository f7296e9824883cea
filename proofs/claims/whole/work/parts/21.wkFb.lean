theorem Fb_function_b0 {E : fb_E} {σ : fb_S} {Q : Int → fb_S → Prop} (h : fb_V E fb_Pr_addFunction 0 [.inr 1] [] σ (fun r1 s2 => fb_V E fb_Fb_accepted 0 [.inr 0, .inl r1] [] s2 (fun r3 s4 => Q r3 s4))) : fb_V E fb_Fb_function 0 [.inr 0] [] σ Q := by
  refine fb_aload_n dd_Fb_function_0 rfl (by decide) (fb_aload_n dd_Fb_function_1 rfl (by decide) (fb_getR 0 0 dd_Fb_function_2 rfl rfl rfl (by decide) lk_Fb_10 ?_))
  refine fb_callVi (z := fb_Pr_addFunction) (k := 1) (vs := []) (st := [.inr 0]) dd_Fb_function_5 vw_Fb_47 (by decide) ⟨_, rfl⟩ rfl rfl (np := 0) (by decide +kernel) rfl rfl rfl rfl rfl (fb_mono h (fun r1 s2 h => ?_))
  refine fb_callVi (z := fb_Fb_accepted) (k := 0) (vs := [.inl r1]) (st := []) dd_Fb_function_8 vw_Fb_51 (by decide) ⟨_, rfl⟩ rfl rfl (np := 1) (by decide +kernel) rfl rfl rfl rfl rfl (fb_mono h (fun r3 s4 h => ?_))
  exact fb_iret dd_Fb_function_11 rfl h

theorem Fb_variable_b0 {E : fb_E} {σ : fb_S} {Q : Int → fb_S → Prop} (v1 : Int) (h : fb_V E fb_Pr_addVariable 0 [.inr 1, .inl v1, .inr 999, .inr 999] [] σ (fun r1 s2 => fb_V E fb_Fb_accepted 0 [.inr 0, .inl r1] [] s2 (fun r3 s4 => Q r3 s4))) : fb_V E fb_Fb_variable 0 [.inr 0, .inl v1] [] σ Q := by
  refine fb_aload_n dd_Fb_variable_0 rfl (by decide) (fb_aload_n dd_Fb_variable_1 rfl (by decide) (fb_getR 0 0 dd_Fb_variable_2 rfl rfl rfl (by decide) lk_Fb_10 (fb_iload_n dd_Fb_variable_5 rfl ?_)))
  refine fb_callVi (z := fb_Pr_addVariable) (k := 1) (vs := [.inl v1]) (st := [.inr 0]) dd_Fb_variable_6 vw_Fb_55 (by decide) ⟨_, rfl⟩ rfl rfl (np := 1) (by decide +kernel) rfl rfl rfl rfl rfl (fb_mono h (fun r1 s2 h => ?_))
  refine fb_callVi (z := fb_Fb_accepted) (k := 0) (vs := [.inl r1]) (st := []) dd_Fb_variable_9 vw_Fb_51 (by decide) ⟨_, rfl⟩ rfl rfl (np := 1) (by decide +kernel) rfl rfl rfl rfl rfl (fb_mono h (fun r3 s4 h => ?_))
  exact fb_iret dd_Fb_variable_12 rfl h

theorem Fb_op_b0 {E : fb_E} {σ : fb_S} {Q : Int → fb_S → Prop} (v1 v2 v3 v4 : Int) (h : fb_V E fb_Pr_addInstruction 0 [.inr 1, .inl v1, .inl v2, .inl v3, .inl v4, .inr 999] [] σ (fun r1 s2 => fb_V E fb_Fb_accepted 0 [.inr 0, .inl r1] [] s2 (fun r3 s4 => Q r3 s4))) : fb_V E fb_Fb_op 0 [.inr 0, .inl v1, .inl v2, .inl v3, .inl v4] [] σ Q := by
  refine fb_aload_n dd_Fb_op_0 rfl (by decide) (fb_aload_n dd_Fb_op_1 rfl (by decide) (fb_getR 0 0 dd_Fb_op_2 rfl rfl rfl (by decide) lk_Fb_10 (fb_iload_n dd_Fb_op_5 rfl (fb_iload_n dd_Fb_op_6 rfl (fb_iload_n dd_Fb_op_7 rfl (fb_iload dd_Fb_op_8 rfl ?_))))))
  refine fb_callVi (z := fb_Pr_addInstruction) (k := 1) (vs := [.inl v1, .inl v2, .inl v3, .inl v4]) (st := [.inr 0]) dd_Fb_op_10 vw_Fb_58 (by decide) ⟨_, rfl⟩ rfl rfl (np := 4) (by decide +kernel) rfl rfl rfl rfl rfl (fb_mono h (fun r1 s2 h => ?_))
  refine fb_callVi (z := fb_Fb_accepted) (k := 0) (vs := [.inl r1]) (st := []) dd_Fb_op_13 vw_Fb_51 (by decide) ⟨_, rfl⟩ rfl rfl (np := 1) (by decide +kernel) rfl rfl rfl rfl rfl (fb_mono h (fun r3 s4 h => ?_))
  exact fb_iret dd_Fb_op_16 rfl h

theorem Fb_compile_b0 {E : fb_E} {σ : fb_S} {Q : Int → fb_S → Prop} (h : fb_V E fb_Fb_dropCode 0 [.inr 0] [] σ (fun _ s2 => fb_V E fb_Fb_faultOfProgram 0 [.inr 0] [] s2 (fun r3 s4 => (-2147483648 ≤ r3 ∧ r3 < 2147483648) ∧ ((r3 = 0 → fb_V E fb_As_assemble 0 [.inr 3, .inr 999, .inr 999] [] s4 (fun _ s7 => (-2147483648 ≤ (s7.1 104) ∧ (s7.1 104) < 2147483648) ∧ (((s7.1 104) ≤ 500 → Q 0 (fb_sg s7 4 1)) ∧ (¬ (s7.1 104) ≤ 500 → Q 6 s7)))) ∧ (¬ r3 = 0 → Q r3 s4))))) : fb_V E fb_Fb_compile 0 [.inr 0, .inr 999] [] σ Q := by
  refine fb_aload_n dd_Fb_compile_0 rfl (by decide) ?_
  refine fb_callVv (z := fb_Fb_dropCode) (k := 0) (vs := []) (st := []) dd_Fb_compile_1 vw_Fb_62 (by decide) rfl rfl rfl (np := 0) (by decide +kernel) rfl rfl rfl rfl rfl (fb_mono h (fun r1 s2 h => ?_))
  refine fb_aload_n dd_Fb_compile_4 rfl (by decide) ?_
  refine fb_callVi (z := fb_Fb_faultOfProgram) (k := 0) (vs := []) (st := []) dd_Fb_compile_5 vw_Fb_65 (by decide) ⟨_, rfl⟩ rfl rfl (np := 0) (by decide +kernel) rfl rfl rfl rfl rfl (fb_mono h (fun r3 s4 h => ?_))
  refine fb_istore_n dd_Fb_compile_8 rfl rfl rfl (fb_iload_n dd_Fb_compile_9 rfl ?_)
  obtain ⟨q5, h⟩ := h
  refine fb_if_eq (tgt := 15) dd_Fb_compile_10 rfl q5 (fun hc => ?_) (fun hc => ?_)
  · replace h := h.1 hc
    refine fb_aload_n dd_Fb_compile_15 rfl (by decide) (fb_getR 0 2 dd_Fb_compile_16 rfl rfl rfl (by decide) lk_Fb_30 ?_)
    refine fb_callVv (z := fb_As_assemble) (k := 3) (vs := []) (st := []) dd_Fb_compile_19 vw_Fb_68 (by decide) rfl rfl rfl (np := 0) (by decide +kernel) rfl rfl rfl rfl rfl (fb_mono h (fun r6 s7 h => ?_))
    refine fb_aload_n dd_Fb_compile_22 rfl (by decide) (fb_getR 0 2 dd_Fb_compile_23 rfl rfl rfl (by decide) lk_Fb_30 (fb_getI (x := s7.1 104) 3 8 dd_Fb_compile_26 rfl rfl rfl (by decide) lk_Fb_71 rfl (fb_sipush dd_Fb_compile_29 (by decide) ?_)))
    obtain ⟨q8, h⟩ := h
    refine fb_icmp_le (tgt := 38) dd_Fb_compile_32 rfl q8 (by decide) (fun hc => ?_) (fun hc => ?_)
    · replace h := h.1 hc
      refine fb_aload_n dd_Fb_compile_38 rfl (by decide) (fb_iconst dd_Fb_compile_39 (fb_putZ 0 4 dd_Fb_compile_40 (by decide) rfl rfl rfl (by decide) rfl (by decide +kernel) lk_Fb_43 (fb_iconst dd_Fb_compile_43 ?_)))
      exact fb_iret dd_Fb_compile_44 rfl h
    · replace h := h.2 hc
      refine fb_bipush dd_Fb_compile_35 (by decide) ?_
      exact fb_iret dd_Fb_compile_37 rfl h
  · replace h := h.2 hc
    refine fb_iload_n dd_Fb_compile_13 rfl ?_
    exact fb_iret dd_Fb_compile_14 rfl h

theorem Fb_length_b0 {E : fb_E} {σ : fb_S} {Q : Int → fb_S → Prop} (h : (-2147483648 ≤ (σ.1 4) ∧ (σ.1 4) < 2147483648) ∧ (((σ.1 4) = 0 → Q 0 σ) ∧ (¬ (σ.1 4) = 0 → Q (σ.1 104) σ))) : fb_V E fb_Fb_length 0 [.inr 0] [] σ Q := by
  refine fb_aload_n dd_Fb_length_0 rfl (by decide) (fb_getI (x := σ.1 4) 0 4 dd_Fb_length_1 rfl rfl rfl (by decide) lk_Fb_43 rfl ?_)
  obtain ⟨q1, h⟩ := h
  refine fb_if_eq (tgt := 17) dd_Fb_length_4 rfl q1 (fun hc => ?_) (fun hc => ?_)
  · replace h := h.1 hc
    refine fb_iconst dd_Fb_length_17 ?_
    exact fb_iret dd_Fb_length_18 rfl h
  · replace h := h.2 hc
    refine fb_aload_n dd_Fb_length_7 rfl (by decide) (fb_getR 0 2 dd_Fb_length_8 rfl rfl rfl (by decide) lk_Fb_30 (fb_getI (x := σ.1 104) 3 8 dd_Fb_length_11 rfl rfl rfl (by decide) lk_Fb_71 rfl (fb_goto (tgt := 18) dd_Fb_length_14 rfl ?_)))
    exact fb_iret dd_Fb_length_18 rfl h

theorem Fb_code_b0 {E : fb_E} {σ : fb_S} {Q : Int → fb_S → Prop} (v1 : Int) (h : (-2147483648 ≤ (σ.1 4) ∧ (σ.1 4) < 2147483648) ∧ (((σ.1 4) = 0 → Q (-1) σ) ∧ (¬ (σ.1 4) = 0 → (-2147483648 ≤ v1 ∧ v1 < 2147483648) ∧ ((v1 < 0 → Q (-1) σ) ∧ (¬ v1 < 0 → (-2147483648 ≤ (σ.1 104) ∧ (σ.1 104) < 2147483648) ∧ (((σ.1 104) ≤ v1 → Q (-1) σ) ∧ (¬ (σ.1 104) ≤ v1 → (0 ≤ v1 ∧ v1 < 500) ∧ (Q (σ.2 31 v1) σ)))))))) : fb_V E fb_Fb_code 0 [.inr 0, .inl v1] [] σ Q := by
  refine fb_aload_n dd_Fb_code_0 rfl (by decide) (fb_getI (x := σ.1 4) 0 4 dd_Fb_code_1 rfl rfl rfl (by decide) lk_Fb_43 rfl ?_)
  obtain ⟨q1, h⟩ := h
  refine fb_if_eq (tgt := 34) dd_Fb_code_4 rfl q1 (fun hc => ?_) (fun hc => ?_)
  · replace h := h.1 hc
    refine fb_iconst dd_Fb_code_34 ?_
    exact fb_iret dd_Fb_code_35 rfl h
  · replace h := h.2 hc
    refine fb_iload_n dd_Fb_code_7 rfl ?_
    obtain ⟨q2, h⟩ := h
    refine fb_if_lt (tgt := 34) dd_Fb_code_8 rfl q2 (fun hc => ?_) (fun hc => ?_)
    · replace h := h.1 hc
      refine fb_iconst dd_Fb_code_34 ?_
      exact fb_iret dd_Fb_code_35 rfl h
    · replace h := h.2 hc
      refine fb_iload_n dd_Fb_code_11 rfl (fb_aload_n dd_Fb_code_12 rfl (by decide) (fb_getR 0 2 dd_Fb_code_13 rfl rfl rfl (by decide) lk_Fb_30 (fb_getI (x := σ.1 104) 3 8 dd_Fb_code_16 rfl rfl rfl (by decide) lk_Fb_71 rfl ?_)))
      obtain ⟨q3, h⟩ := h
      refine fb_icmp_ge (tgt := 34) dd_Fb_code_19 rfl q2 q3 (fun hc => ?_) (fun hc => ?_)
      · replace h := h.1 hc
        refine fb_iconst dd_Fb_code_34 ?_
        exact fb_iret dd_Fb_code_35 rfl h
      · replace h := h.2 hc
        refine fb_aload_n dd_Fb_code_22 rfl (by decide) (fb_getR 0 2 dd_Fb_code_23 rfl rfl rfl (by decide) lk_Fb_30 (fb_getR 3 2 dd_Fb_code_26 rfl rfl rfl (by decide) lk_Fb_75 (fb_iload_n dd_Fb_code_29 rfl ?_)))
        obtain ⟨q4, h⟩ := h
        refine fb_ild (x := σ.2 31 v1) dd_Fb_code_30 rfl q4 rfl (fb_goto (tgt := 35) dd_Fb_code_31 rfl ?_)
        exact fb_iret dd_Fb_code_35 rfl h

theorem Fb_longs_b0 {E : fb_E} {σ : fb_S} {Q : Int → fb_S → Prop} (h : (-2147483648 ≤ (σ.1 4) ∧ (σ.1 4) < 2147483648) ∧ (((σ.1 4) = 0 → Q 0 σ) ∧ (¬ (σ.1 4) = 0 → Q (σ.1 105) σ))) : fb_V E fb_Fb_longs 0 [.inr 0] [] σ Q := by
  refine fb_aload_n dd_Fb_longs_0 rfl (by decide) (fb_getI (x := σ.1 4) 0 4 dd_Fb_longs_1 rfl rfl rfl (by decide) lk_Fb_43 rfl ?_)
  obtain ⟨q1, h⟩ := h
  refine fb_if_eq (tgt := 17) dd_Fb_longs_4 rfl q1 (fun hc => ?_) (fun hc => ?_)
  · replace h := h.1 hc
    refine fb_iconst dd_Fb_longs_17 ?_
    exact fb_iret dd_Fb_longs_18 rfl h
  · replace h := h.2 hc
    refine fb_aload_n dd_Fb_longs_7 rfl (by decide) (fb_getR 0 2 dd_Fb_longs_8 rfl rfl rfl (by decide) lk_Fb_30 (fb_getI (x := σ.1 105) 3 9 dd_Fb_longs_11 rfl rfl rfl (by decide) lk_Fb_79 rfl (fb_goto (tgt := 18) dd_Fb_longs_14 rfl ?_)))
    exact fb_iret dd_Fb_longs_18 rfl h

theorem Fb_base_b0 {E : fb_E} {σ : fb_S} {Q : Int → fb_S → Prop} (v1 : Int) (h : (-2147483648 ≤ (σ.1 4) ∧ (σ.1 4) < 2147483648) ∧ (((σ.1 4) = 0 → Q (-1) σ) ∧ (¬ (σ.1 4) = 0 → fb_V E fb_Pr_hasFunction 0 [.inr 1, .inl v1] [] σ (fun r2 s3 => (-2147483648 ≤ r2 ∧ r2 < 2147483648) ∧ ((r2 = 0 → Q (-1) s3) ∧ (¬ r2 = 0 → (0 ≤ v1 ∧ v1 < 6) ∧ (Q (s3.2 23 v1) s3))))))) : fb_V E fb_Fb_base 0 [.inr 0, .inl v1] [] σ Q := by
  refine fb_aload_n dd_Fb_base_0 rfl (by decide) (fb_getI (x := σ.1 4) 0 4 dd_Fb_base_1 rfl rfl rfl (by decide) lk_Fb_43 rfl ?_)
  obtain ⟨q1, h⟩ := h
  refine fb_if_eq (tgt := 30) dd_Fb_base_4 rfl q1 (fun hc => ?_) (fun hc => ?_)
  · replace h := h.1 hc
    refine fb_iconst dd_Fb_base_30 ?_
    exact fb_iret dd_Fb_base_31 rfl h
  · replace h := h.2 hc
    refine fb_aload_n dd_Fb_base_7 rfl (by decide) (fb_getR 0 0 dd_Fb_base_8 rfl rfl rfl (by decide) lk_Fb_10 (fb_iload_n dd_Fb_base_11 rfl ?_))
    refine fb_callVi (z := fb_Pr_hasFunction) (k := 1) (vs := [.inl v1]) (st := []) dd_Fb_base_12 vw_Fb_82 (by decide) ⟨_, rfl⟩ rfl rfl (np := 1) (by decide +kernel) rfl rfl rfl rfl rfl (fb_mono h (fun r2 s3 h => ?_))
    obtain ⟨q4, h⟩ := h
    refine fb_if_eq (tgt := 30) dd_Fb_base_15 rfl q4 (fun hc => ?_) (fun hc => ?_)
    · replace h := h.1 hc
      refine fb_iconst dd_Fb_base_30 ?_
      exact fb_iret dd_Fb_base_31 rfl h
    · replace h := h.2 hc
      refine fb_aload_n dd_Fb_base_18 rfl (by decide) (fb_getR 0 1 dd_Fb_base_19 rfl rfl rfl (by decide) lk_Fb_21 (fb_getR 2 3 dd_Fb_base_22 rfl rfl rfl (by decide) lk_Fb_86 (fb_iload_n dd_Fb_base_25 rfl ?_)))
      obtain ⟨q5, h⟩ := h
      refine fb_ild (x := s3.2 23 v1) dd_Fb_base_26 rfl q5 rfl (fb_goto (tgt := 31) dd_Fb_base_27 rfl ?_)
      exact fb_iret dd_Fb_base_31 rfl h

theorem Fb_address_b0 {E : fb_E} {σ : fb_S} {Q : Int → fb_S → Prop} (v1 v2 : Int) (h : (-2147483648 ≤ (σ.1 4) ∧ (σ.1 4) < 2147483648) ∧ (((σ.1 4) = 0 → Q (-1) σ) ∧ (¬ (σ.1 4) = 0 → fb_V E fb_Pr_hasInstruction 0 [.inr 1, .inl v1, .inl v2] [] σ (fun r2 s3 => (-2147483648 ≤ r2 ∧ r2 < 2147483648) ∧ ((r2 = 0 → Q (-1) s3) ∧ (¬ r2 = 0 → (0 ≤ v1 ∧ v1 < 6) ∧ ((0 ≤ ((s3.2 14 v1) + v2) ∧ ((s3.2 14 v1) + v2) < 60) ∧ (Q (s3.2 33 ((s3.2 14 v1) + v2)) s3)))))))) : fb_V E fb_Fb_address 0 [.inr 0, .inl v1, .inl v2] [] σ Q := by
  refine fb_aload_n dd_Fb_address_0 rfl (by decide) (fb_getI (x := σ.1 4) 0 4 dd_Fb_address_1 rfl rfl rfl (by decide) lk_Fb_43 rfl ?_)
  obtain ⟨q1, h⟩ := h
  refine fb_if_eq (tgt := 41) dd_Fb_address_4 rfl q1 (fun hc => ?_) (fun hc => ?_)
  · replace h := h.1 hc
    refine fb_iconst dd_Fb_address_41 ?_
    exact fb_iret dd_Fb_address_42 rfl h
  · replace h := h.2 hc
    refine fb_aload_n dd_Fb_address_7 rfl (by decide) (fb_getR 0 0 dd_Fb_address_8 rfl rfl rfl (by decide) lk_Fb_10 (fb_iload_n dd_Fb_address_11 rfl (fb_iload_n dd_Fb_address_12 rfl ?_)))
    refine fb_callVi (z := fb_Pr_hasInstruction) (k := 1) (vs := [.inl v1, .inl v2]) (st := []) dd_Fb_address_13 vw_Fb_89 (by decide) ⟨_, rfl⟩ rfl rfl (np := 2) (by decide +kernel) rfl rfl rfl rfl rfl (fb_mono h (fun r2 s3 h => ?_))
    obtain ⟨q4, h⟩ := h
    refine fb_if_eq (tgt := 41) dd_Fb_address_16 rfl q4 (fun hc => ?_) (fun hc => ?_)
    · replace h := h.1 hc
      refine fb_iconst dd_Fb_address_41 ?_
      exact fb_iret dd_Fb_address_42 rfl h
    · replace h := h.2 hc
      refine fb_aload_n dd_Fb_address_19 rfl (by decide) (fb_getR 0 2 dd_Fb_address_20 rfl rfl rfl (by decide) lk_Fb_30 (fb_getR 3 4 dd_Fb_address_23 rfl rfl rfl (by decide) lk_Fb_93 (fb_aload_n dd_Fb_address_26 rfl (by decide) (fb_getR 0 0 dd_Fb_address_27 rfl rfl rfl (by decide) lk_Fb_10 (fb_getR 1 2 dd_Fb_address_30 rfl rfl rfl (by decide) lk_Fb_96 (fb_iload_n dd_Fb_address_33 rfl ?_))))))
      obtain ⟨q5, h⟩ := h
      refine fb_ild (x := s3.2 14 v1) dd_Fb_address_34 rfl q5 rfl (fb_iload_n dd_Fb_address_35 rfl (fb_iadd dd_Fb_address_36 ?_))
      obtain ⟨q6, h⟩ := h
      refine fb_ild (x := s3.2 33 ((s3.2 14 v1) + v2)) dd_Fb_address_37 rfl q6 rfl (fb_goto (tgt := 42) dd_Fb_address_38 rfl ?_)
      exact fb_iret dd_Fb_address_42 rfl h

theorem Fb_start_b0 {E : fb_E} {σ : fb_S} {Q : Int → fb_S → Prop} (h : (-2147483648 ≤ (σ.1 4) ∧ (σ.1 4) < 2147483648) ∧ ((¬ (σ.1 4) = 0 → fb_V E fb_Po_begin 0 [.inr 4] [] σ (fun _ s3 => Q 1 s3)) ∧ ((σ.1 4) = 0 → Q 0 σ))) : fb_V E fb_Fb_start 0 [.inr 0] [] σ Q := by
  refine fb_aload_n dd_Fb_start_0 rfl (by decide) (fb_getI (x := σ.1 4) 0 4 dd_Fb_start_1 rfl rfl rfl (by decide) lk_Fb_43 rfl ?_)
  obtain ⟨q1, h⟩ := h
  refine fb_if_ne (tgt := 9) dd_Fb_start_4 rfl q1 (fun hc => ?_) (fun hc => ?_)
  · replace h := h.1 hc
    refine fb_aload_n dd_Fb_start_9 rfl (by decide) (fb_getR 0 3 dd_Fb_start_10 rfl rfl rfl (by decide) lk_Fb_39 ?_)
    refine fb_callVv (z := fb_Po_begin) (k := 4) (vs := []) (st := []) dd_Fb_start_13 vw_Fb_99 (by decide) rfl rfl rfl (np := 0) (by decide +kernel) rfl rfl rfl rfl rfl (fb_mono h (fun r2 s3 h => ?_))
    refine fb_iconst dd_Fb_start_16 ?_
    exact fb_zret dd_Fb_start_17 rfl (by decide) h
  · replace h := h.2 hc
    refine fb_iconst dd_Fb_start_7 ?_
    exact fb_zret dd_Fb_start_8 rfl (by decide) h

theorem Fb_run_b0 {E : fb_E} {σ : fb_S} {Q : Int → fb_S → Prop} (v1 : Int) (h : (-2147483648 ≤ (σ.1 133) ∧ (σ.1 133) < 2147483648) ∧ (((σ.1 133) = (-1) → Q (-1) σ) ∧ (¬ (σ.1 133) = (-1) → (-2147483648 ≤ v1 ∧ v1 < 2147483648) ∧ ((v1 < 0 → Q (-1) σ) ∧ (¬ v1 < 0 → (v1 ≤ 1000 → fb_V E fb_Po_perform 0 [.inr 4, .inl v1, .inr 999] [] σ (fun r3 s4 => Q r3 s4)) ∧ (¬ v1 ≤ 1000 → Q (-1) σ)))))) : fb_V E fb_Fb_run 0 [.inr 0, .inl v1] [] σ Q := by
  refine fb_aload_n dd_Fb_run_0 rfl (by decide) (fb_getR 0 3 dd_Fb_run_1 rfl rfl rfl (by decide) lk_Fb_39 (fb_getI (x := σ.1 133) 4 5 dd_Fb_run_4 rfl rfl rfl (by decide) lk_Fb_102 rfl (fb_iconst dd_Fb_run_7 ?_)))
  obtain ⟨q1, h⟩ := h
  refine fb_icmp_eq (tgt := 22) dd_Fb_run_8 rfl q1 (by decide) (fun hc => ?_) (fun hc => ?_)
  · replace h := h.1 hc
    refine fb_iconst dd_Fb_run_22 ?_
    exact fb_iret dd_Fb_run_23 rfl h
  · replace h := h.2 hc
    refine fb_iload_n dd_Fb_run_11 rfl ?_
    obtain ⟨q2, h⟩ := h
    refine fb_if_lt (tgt := 22) dd_Fb_run_12 rfl q2 (fun hc => ?_) (fun hc => ?_)
    · replace h := h.1 hc
      refine fb_iconst dd_Fb_run_22 ?_
      exact fb_iret dd_Fb_run_23 rfl h
    · replace h := h.2 hc
      refine fb_iload_n dd_Fb_run_15 rfl (fb_sipush dd_Fb_run_16 (by decide) ?_)
      refine fb_icmp_le (tgt := 24) dd_Fb_run_19 rfl q2 (by decide) (fun hc => ?_) (fun hc => ?_)
      · replace h := h.1 hc
        refine fb_aload_n dd_Fb_run_24 rfl (by decide) (fb_getR 0 3 dd_Fb_run_25 rfl rfl rfl (by decide) lk_Fb_39 (fb_iload_n dd_Fb_run_28 rfl ?_))
        refine fb_callVi (z := fb_Po_perform) (k := 4) (vs := [.inl v1]) (st := []) dd_Fb_run_29 vw_Fb_105 (by decide) ⟨_, rfl⟩ rfl rfl (np := 1) (by decide +kernel) rfl rfl rfl rfl rfl (fb_mono h (fun r3 s4 h => ?_))
        exact fb_iret dd_Fb_run_32 rfl h
      · replace h := h.2 hc
        refine fb_iconst dd_Fb_run_22 ?_
        exact fb_iret dd_Fb_run_23 rfl h

theorem Fb_state_b0 {E : fb_E} {σ : fb_S} {Q : Int → fb_S → Prop} (h : Q (σ.1 133) σ) : fb_V E fb_Fb_state 0 [.inr 0] [] σ Q := by
  refine fb_aload_n dd_Fb_state_0 rfl (by decide) (fb_getR 0 3 dd_Fb_state_1 rfl rfl rfl (by decide) lk_Fb_39 (fb_getI (x := σ.1 133) 4 5 dd_Fb_state_4 rfl rfl rfl (by decide) lk_Fb_102 rfl ?_))
  exact fb_iret dd_Fb_state_7 rfl h

theorem Fb_spent_b0 {E : fb_E} {σ : fb_S} {Q : Int → fb_S → Prop} (h : Q (σ.1 134) σ) : fb_V E fb_Fb_spent 0 [.inr 0] [] σ Q := by
  refine fb_aload_n dd_Fb_spent_0 rfl (by decide) (fb_getR 0 3 dd_Fb_spent_1 rfl rfl rfl (by decide) lk_Fb_39 (fb_getI (x := σ.1 134) 4 6 dd_Fb_spent_4 rfl rfl rfl (by decide) lk_Fb_108 rfl ?_))
  exact fb_iret dd_Fb_spent_7 rfl h

theorem Fb_next_b0 {E : fb_E} {σ : fb_S} {Q : Int → fb_S → Prop} (h : fb_V E fb_Po_label 0 [.inr 4] [] σ (fun r1 s2 => Q r1 s2)) : fb_V E fb_Fb_next 0 [.inr 0] [] σ Q := by
  refine fb_aload_n dd_Fb_next_0 rfl (by decide) (fb_getR 0 3 dd_Fb_next_1 rfl rfl rfl (by decide) lk_Fb_39 ?_)
  refine fb_callVi (z := fb_Po_label) (k := 4) (vs := []) (st := []) dd_Fb_next_4 vw_Fb_111 (by decide) ⟨_, rfl⟩ rfl rfl (np := 0) (by decide +kernel) rfl rfl rfl rfl rfl (fb_mono h (fun r1 s2 h => ?_))
  exact fb_iret dd_Fb_next_7 rfl h

theorem Fb_depth_b0 {E : fb_E} {σ : fb_S} {Q : Int → fb_S → Prop} (h : (-2147483648 ≤ (σ.1 133) ∧ (σ.1 133) < 2147483648) ∧ ((¬ (σ.1 133) = 0 → Q 0 σ) ∧ ((σ.1 133) = 0 → Q ((σ.1 132) + 1) σ))) : fb_V E fb_Fb_depth 0 [.inr 0] [] σ Q := by
  refine fb_aload_n dd_Fb_depth_0 rfl (by decide) (fb_getR 0 3 dd_Fb_depth_1 rfl rfl rfl (by decide) lk_Fb_39 (fb_getI (x := σ.1 133) 4 5 dd_Fb_depth_4 rfl rfl rfl (by decide) lk_Fb_102 rfl ?_))
  obtain ⟨q1, h⟩ := h
  refine fb_if_ne (tgt := 22) dd_Fb_depth_7 rfl q1 (fun hc => ?_) (fun hc => ?_)
  · replace h := h.1 hc
    refine fb_iconst dd_Fb_depth_22 ?_
    exact fb_iret dd_Fb_depth_23 rfl h
  · replace h := h.2 hc
    refine fb_aload_n dd_Fb_depth_10 rfl (by decide) (fb_getR 0 3 dd_Fb_depth_11 rfl rfl rfl (by decide) lk_Fb_39 (fb_getI (x := σ.1 132) 4 4 dd_Fb_depth_14 rfl rfl rfl (by decide) lk_Fb_114 rfl (fb_iconst dd_Fb_depth_17 (fb_iadd dd_Fb_depth_18 (fb_goto (tgt := 23) dd_Fb_depth_19 rfl ?_)))))
    exact fb_iret dd_Fb_depth_23 rfl h

theorem Fb_value_b0 {E : fb_E} {σ : fb_S} {Q : Int → fb_S → Prop} (v1 v2 : Int) (h : fb_V E fb_Po_label 0 [.inr 4] [] σ (fun r1 s2 => (-2147483648 ≤ r1 ∧ r1 < 2147483648) ∧ ((¬ r1 = (-1) → (0 ≤ r1 ∧ r1 < 2147483648) ∧ ((-2147483648 ≤ v2 ∧ v2 < 2147483648) ∧ ((v2 < 0 → Q (-1) s2) ∧ (¬ v2 < 0 → fb_V E fb_Pr_sizeOf 0 [.inr 1, .inl (r1 / 24), .inl v1, .inr 999] [] s2 (fun r6 s7 => (-2147483648 ≤ r6 ∧ r6 < 2147483648) ∧ ((v2 < r6 → (0 ≤ (r1 / 24) ∧ (r1 / 24) < 6) ∧ ((0 ≤ v1 ∧ v1 < 6) ∧ ((0 ≤ ((s7.2 (25 + (r1 / 24).toNat) v1) + v2) ∧ ((s7.2 (25 + (r1 / 24).toNat) v1) + v2) < 128) ∧ (Q (s7.2 37 ((s7.2 (25 + (r1 / 24).toNat) v1) + v2)) s7)))) ∧ (¬ v2 < r6 → Q (-1) s7))))))) ∧ (r1 = (-1) → Q (-1) s2)))) : fb_V E fb_Fb_value 0 [.inr 0, .inl v1, .inl v2, .inr 999, .inr 999] [] σ Q := by
  refine fb_aload_n dd_Fb_value_0 rfl (by decide) (fb_getR 0 3 dd_Fb_value_1 rfl rfl rfl (by decide) lk_Fb_39 ?_)
  refine fb_callVi (z := fb_Po_label) (k := 4) (vs := []) (st := []) dd_Fb_value_4 vw_Fb_111 (by decide) ⟨_, rfl⟩ rfl rfl (np := 0) (by decide +kernel) rfl rfl rfl rfl rfl (fb_mono h (fun r1 s2 h => ?_))
  refine fb_istore_n dd_Fb_value_7 rfl rfl rfl (fb_iload_n dd_Fb_value_8 rfl (fb_iconst dd_Fb_value_9 ?_))
  obtain ⟨q3, h⟩ := h
  refine fb_icmp_ne (tgt := 15) dd_Fb_value_10 rfl q3 (by decide) (fun hc => ?_) (fun hc => ?_)
  · replace h := h.1 hc
    refine fb_iload_n dd_Fb_value_15 rfl (fb_bipush dd_Fb_value_16 (by decide) ?_)
    obtain ⟨q4, h⟩ := h
    refine fb_idiv dd_Fb_value_18 q4 (by decide) (fb_istore dd_Fb_value_19 rfl rfl rfl (fb_iload_n dd_Fb_value_21 rfl ?_))
    obtain ⟨q5, h⟩ := h
    refine fb_if_lt (tgt := 39) dd_Fb_value_22 rfl q5 (fun hc => ?_) (fun hc => ?_)
    · replace h := h.1 hc
      refine fb_iconst dd_Fb_value_39 ?_
      exact fb_iret dd_Fb_value_40 rfl h
    · replace h := h.2 hc
      refine fb_iload_n dd_Fb_value_25 rfl (fb_aload_n dd_Fb_value_26 rfl (by decide) (fb_getR 0 0 dd_Fb_value_27 rfl rfl rfl (by decide) lk_Fb_10 (fb_iload dd_Fb_value_30 rfl (fb_iload_n dd_Fb_value_32 rfl ?_))))
      refine fb_callVi (z := fb_Pr_sizeOf) (k := 1) (vs := [.inl (r1 / 24), .inl v1]) (st := [.inl v2]) dd_Fb_value_33 vw_Fb_117 (by decide) ⟨_, rfl⟩ rfl rfl (np := 2) (by decide +kernel) rfl rfl rfl rfl rfl (fb_mono h (fun r6 s7 h => ?_))
      obtain ⟨q8, h⟩ := h
      refine fb_icmp_lt (tgt := 41) dd_Fb_value_36 rfl q5 q8 (fun hc => ?_) (fun hc => ?_)
      · replace h := h.1 hc
        refine fb_aload_n dd_Fb_value_41 rfl (by decide) (fb_getR 0 3 dd_Fb_value_42 rfl rfl rfl (by decide) lk_Fb_39 (fb_getR 4 1 dd_Fb_value_45 rfl rfl rfl (by decide) lk_Fb_121 (fb_aload_n dd_Fb_value_48 rfl (by decide) (fb_getR 0 1 dd_Fb_value_49 rfl rfl rfl (by decide) lk_Fb_21 (fb_getR 2 4 dd_Fb_value_52 rfl rfl rfl (by decide) lk_Fb_124 (fb_iload dd_Fb_value_55 rfl ?_))))))
        obtain ⟨q9, h⟩ := h
        refine fb_ald dd_Fb_value_57 rfl q9 (fb_iload_n dd_Fb_value_58 rfl ?_)
        obtain ⟨q10, h⟩ := h
        refine fb_ild (x := s7.2 (25 + (r1 / 24).toNat) v1) dd_Fb_value_59 (fb_row25 q9) q10 rfl (fb_iload_n dd_Fb_value_60 rfl (fb_iadd dd_Fb_value_61 ?_))
        obtain ⟨q11, h⟩ := h
        refine fb_ild (x := s7.2 37 ((s7.2 (25 + (r1 / 24).toNat) v1) + v2)) dd_Fb_value_62 rfl q11 rfl ?_
        exact fb_iret dd_Fb_value_63 rfl h
      · replace h := h.2 hc
        refine fb_iconst dd_Fb_value_39 ?_
        exact fb_iret dd_Fb_value_40 rfl h
  · replace h := h.2 hc
    refine fb_iconst dd_Fb_value_13 ?_
    exact fb_iret dd_Fb_value_14 rfl h

theorem Fb_output_b0 {E : fb_E} {σ : fb_S} {Q : Int → fb_S → Prop} (v1 : Int) (h : (-2147483648 ≤ v1 ∧ v1 < 2147483648) ∧ ((¬ v1 = (-1) → (v1 < 0 → Q (-1) σ) ∧ (¬ v1 < 0 → (-2147483648 ≤ (σ.1 135) ∧ (σ.1 135) < 2147483648) ∧ (((σ.1 135) ≤ v1 → Q (-1) σ) ∧ (¬ (σ.1 135) ≤ v1 → (100 ≤ v1 → Q (-1) σ) ∧ (¬ 100 ≤ v1 → (0 ≤ v1 ∧ v1 < 100) ∧ (Q (σ.2 38 v1) σ)))))) ∧ (v1 = (-1) → Q (σ.1 135) σ))) : fb_V E fb_Fb_output 0 [.inr 0, .inl v1] [] σ Q := by
  refine fb_iload_n dd_Fb_output_0 rfl (fb_iconst dd_Fb_output_1 ?_)
  obtain ⟨q1, h⟩ := h
  refine fb_icmp_ne (tgt := 13) dd_Fb_output_2 rfl q1 (by decide) (fun hc => ?_) (fun hc => ?_)
  · replace h := h.1 hc
    refine fb_iload_n dd_Fb_output_13 rfl ?_
    refine fb_if_lt (tgt := 46) dd_Fb_output_14 rfl q1 (fun hc => ?_) (fun hc => ?_)
    · replace h := h.1 hc
      refine fb_iconst dd_Fb_output_46 ?_
      exact fb_iret dd_Fb_output_47 rfl h
    · replace h := h.2 hc
      refine fb_iload_n dd_Fb_output_17 rfl (fb_aload_n dd_Fb_output_18 rfl (by decide) (fb_getR 0 3 dd_Fb_output_19 rfl rfl rfl (by decide) lk_Fb_39 (fb_getI (x := σ.1 135) 4 7 dd_Fb_output_22 rfl rfl rfl (by decide) lk_Fb_128 rfl ?_)))
      obtain ⟨q2, h⟩ := h
      refine fb_icmp_ge (tgt := 46) dd_Fb_output_25 rfl q1 q2 (fun hc => ?_) (fun hc => ?_)
      · replace h := h.1 hc
        refine fb_iconst dd_Fb_output_46 ?_
        exact fb_iret dd_Fb_output_47 rfl h
      · replace h := h.2 hc
        refine fb_iload_n dd_Fb_output_28 rfl (fb_bipush dd_Fb_output_29 (by decide) ?_)
        refine fb_icmp_ge (tgt := 46) dd_Fb_output_31 rfl q1 (by decide) (fun hc => ?_) (fun hc => ?_)
        · replace h := h.1 hc
          refine fb_iconst dd_Fb_output_46 ?_
          exact fb_iret dd_Fb_output_47 rfl h
        · replace h := h.2 hc
          refine fb_aload_n dd_Fb_output_34 rfl (by decide) (fb_getR 0 3 dd_Fb_output_35 rfl rfl rfl (by decide) lk_Fb_39 (fb_getR 4 2 dd_Fb_output_38 rfl rfl rfl (by decide) lk_Fb_131 (fb_iload_n dd_Fb_output_41 rfl ?_)))
          obtain ⟨q3, h⟩ := h
          refine fb_ild (x := σ.2 38 v1) dd_Fb_output_42 rfl q3 rfl (fb_goto (tgt := 47) dd_Fb_output_43 rfl ?_)
          exact fb_iret dd_Fb_output_47 rfl h
  · replace h := h.2 hc
    refine fb_aload_n dd_Fb_output_5 rfl (by decide) (fb_getR 0 3 dd_Fb_output_6 rfl rfl rfl (by decide) lk_Fb_39 (fb_getI (x := σ.1 135) 4 7 dd_Fb_output_9 rfl rfl rfl (by decide) lk_Fb_128 rfl ?_))
    exact fb_iret dd_Fb_output_12 rfl h

theorem Fb_accepted_b0 {E : fb_E} {σ : fb_S} {Q : Int → fb_S → Prop} (v1 : Int) (h : (-2147483648 ≤ v1 ∧ v1 < 2147483648) ∧ ((v1 = (-1) → Q v1 σ) ∧ (¬ v1 = (-1) → fb_V E fb_Fb_dropCode 0 [.inr 0] [] σ (fun _ s3 => Q v1 s3)))) : fb_V E fb_Fb_accepted 0 [.inr 0, .inl v1] [] σ Q := by
  refine fb_iload_n dd_Fb_accepted_0 rfl (fb_iconst dd_Fb_accepted_1 ?_)
  obtain ⟨q1, h⟩ := h
  refine fb_icmp_eq (tgt := 9) dd_Fb_accepted_2 rfl q1 (by decide) (fun hc => ?_) (fun hc => ?_)
  · replace h := h.1 hc
    refine fb_iload_n dd_Fb_accepted_9 rfl ?_
    exact fb_iret dd_Fb_accepted_10 rfl h
  · replace h := h.2 hc
    refine fb_aload_n dd_Fb_accepted_5 rfl (by decide) ?_
    refine fb_callVv (z := fb_Fb_dropCode) (k := 0) (vs := []) (st := []) dd_Fb_accepted_6 vw_Fb_62 (by decide) rfl rfl rfl (np := 0) (by decide +kernel) rfl rfl rfl rfl rfl (fb_mono h (fun r2 s3 h => ?_))
    refine fb_iload_n dd_Fb_accepted_9 rfl ?_
    exact fb_iret dd_Fb_accepted_10 rfl h

theorem Fb_dropCode_b0 {E : fb_E} {σ : fb_S} {Q : Int → fb_S → Prop} (h : fb_V E fb_Po_drop 0 [.inr 4] [] (fb_sg σ 4 0) (fun _ s2 => Q 0 s2)) : fb_V E fb_Fb_dropCode 0 [.inr 0] [] σ Q := by
  refine fb_aload_n dd_Fb_dropCode_0 rfl (by decide) (fb_iconst dd_Fb_dropCode_1 (fb_putZ 0 4 dd_Fb_dropCode_2 (by decide) rfl rfl rfl (by decide) rfl (by decide +kernel) lk_Fb_43 (fb_aload_n dd_Fb_dropCode_5 rfl (by decide) (fb_getR 0 3 dd_Fb_dropCode_6 rfl rfl rfl (by decide) lk_Fb_39 ?_))))
  refine fb_callVv (z := fb_Po_drop) (k := 4) (vs := []) (st := []) dd_Fb_dropCode_9 vw_Fb_134 (by decide) rfl rfl rfl (np := 0) (by decide +kernel) rfl rfl rfl rfl rfl (fb_mono h (fun r1 s2 h => ?_))
  exact fb_vret dd_Fb_dropCode_12 rfl h

theorem Fb_faultOfProgram_b0 {E : fb_E} {σ : fb_S} {Q : Int → fb_S → Prop} (h : fb_V E fb_Pr_isWhole 0 [.inr 1, .inr 999, .inr 999] [] σ (fun r1 s2 => (-2147483648 ≤ r1 ∧ r1 < 2147483648) ∧ ((¬ r1 = 0 → fb_V E fb_Pr_hasAllTargets 0 [.inr 1, .inr 999] [] s2 (fun r4 s5 => (-2147483648 ≤ r4 ∧ r4 < 2147483648) ∧ ((¬ r4 = 0 → fb_V E fb_Pr_hasAllCallees 0 [.inr 1, .inr 999] [] s5 (fun r7 s8 => (-2147483648 ≤ r7 ∧ r7 < 2147483648) ∧ ((¬ r7 = 0 → fb_V E fb_Fr_gatherCalls 0 [.inr 2, .inr 999] [] s8 (fun _ s11 => fb_V E fb_Fr_hasRecursion 0 [.inr 2, .inr 999] [] s11 (fun r12 s13 => (-2147483648 ≤ r12 ∧ r12 < 2147483648) ∧ ((r12 = 0 → fb_V E fb_Fr_findBases 0 [.inr 2, .inr 999, .inr 999] [] s13 (fun _ s16 => fb_V E fb_Fr_fit 0 [.inr 2, .inr 999] [] s16 (fun r17 s18 => (-2147483648 ≤ r17 ∧ r17 < 2147483648) ∧ ((¬ r17 = 0 → fb_V E fb_Fr_placeVariables 0 [.inr 2, .inr 999, .inr 999, .inr 999] [] s18 (fun _ s21 => Q 0 s21)) ∧ (r17 = 0 → Q 5 s18))))) ∧ (¬ r12 = 0 → Q 4 s13))))) ∧ (r7 = 0 → Q 3 s8)))) ∧ (r4 = 0 → Q 2 s5)))) ∧ (r1 = 0 → Q 1 s2)))) : fb_V E fb_Fb_faultOfProgram 0 [.inr 0] [] σ Q := by
  refine fb_aload_n dd_Fb_faultOfProgram_0 rfl (by decide) (fb_getR 0 0 dd_Fb_faultOfProgram_1 rfl rfl rfl (by decide) lk_Fb_10 ?_)
  refine fb_callVi (z := fb_Pr_isWhole) (k := 1) (vs := []) (st := []) dd_Fb_faultOfProgram_4 vw_Fb_137 (by decide) ⟨_, rfl⟩ rfl rfl (np := 0) (by decide +kernel) rfl rfl rfl rfl rfl (fb_mono h (fun r1 s2 h => ?_))
  obtain ⟨q3, h⟩ := h
  refine fb_if_ne (tgt := 12) dd_Fb_faultOfProgram_7 rfl q3 (fun hc => ?_) (fun hc => ?_)
  · replace h := h.1 hc
    refine fb_aload_n dd_Fb_faultOfProgram_12 rfl (by decide) (fb_getR 0 0 dd_Fb_faultOfProgram_13 rfl rfl rfl (by decide) lk_Fb_10 ?_)
    refine fb_callVi (z := fb_Pr_hasAllTargets) (k := 1) (vs := []) (st := []) dd_Fb_faultOfProgram_16 vw_Fb_141 (by decide) ⟨_, rfl⟩ rfl rfl (np := 0) (by decide +kernel) rfl rfl rfl rfl rfl (fb_mono h (fun r4 s5 h => ?_))
    obtain ⟨q6, h⟩ := h
    refine fb_if_ne (tgt := 24) dd_Fb_faultOfProgram_19 rfl q6 (fun hc => ?_) (fun hc => ?_)
    · replace h := h.1 hc
      refine fb_aload_n dd_Fb_faultOfProgram_24 rfl (by decide) (fb_getR 0 0 dd_Fb_faultOfProgram_25 rfl rfl rfl (by decide) lk_Fb_10 ?_)
      refine fb_callVi (z := fb_Pr_hasAllCallees) (k := 1) (vs := []) (st := []) dd_Fb_faultOfProgram_28 vw_Fb_144 (by decide) ⟨_, rfl⟩ rfl rfl (np := 0) (by decide +kernel) rfl rfl rfl rfl rfl (fb_mono h (fun r7 s8 h => ?_))
      obtain ⟨q9, h⟩ := h
      refine fb_if_ne (tgt := 36) dd_Fb_faultOfProgram_31 rfl q9 (fun hc => ?_) (fun hc => ?_)
      · replace h := h.1 hc
        refine fb_aload_n dd_Fb_faultOfProgram_36 rfl (by decide) (fb_getR 0 1 dd_Fb_faultOfProgram_37 rfl rfl rfl (by decide) lk_Fb_21 ?_)
        refine fb_callVv (z := fb_Fr_gatherCalls) (k := 2) (vs := []) (st := []) dd_Fb_faultOfProgram_40 vw_Fb_147 (by decide) rfl rfl rfl (np := 0) (by decide +kernel) rfl rfl rfl rfl rfl (fb_mono h (fun r10 s11 h => ?_))
        refine fb_aload_n dd_Fb_faultOfProgram_43 rfl (by decide) (fb_getR 0 1 dd_Fb_faultOfProgram_44 rfl rfl rfl (by decide) lk_Fb_21 ?_)
        refine fb_callVi (z := fb_Fr_hasRecursion) (k := 2) (vs := []) (st := []) dd_Fb_faultOfProgram_47 vw_Fb_150 (by decide) ⟨_, rfl⟩ rfl rfl (np := 0) (by decide +kernel) rfl rfl rfl rfl rfl (fb_mono h (fun r12 s13 h => ?_))
        obtain ⟨q14, h⟩ := h
        refine fb_if_eq (tgt := 55) dd_Fb_faultOfProgram_50 rfl q14 (fun hc => ?_) (fun hc => ?_)
        · replace h := h.1 hc
          refine fb_aload_n dd_Fb_faultOfProgram_55 rfl (by decide) (fb_getR 0 1 dd_Fb_faultOfProgram_56 rfl rfl rfl (by decide) lk_Fb_21 ?_)
          refine fb_callVv (z := fb_Fr_findBases) (k := 2) (vs := []) (st := []) dd_Fb_faultOfProgram_59 vw_Fb_153 (by decide) rfl rfl rfl (np := 0) (by decide +kernel) rfl rfl rfl rfl rfl (fb_mono h (fun r15 s16 h => ?_))
          refine fb_aload_n dd_Fb_faultOfProgram_62 rfl (by decide) (fb_getR 0 1 dd_Fb_faultOfProgram_63 rfl rfl rfl (by decide) lk_Fb_21 ?_)
          refine fb_callVi (z := fb_Fr_fit) (k := 2) (vs := []) (st := []) dd_Fb_faultOfProgram_66 vw_Fb_156 (by decide) ⟨_, rfl⟩ rfl rfl (np := 0) (by decide +kernel) rfl rfl rfl rfl rfl (fb_mono h (fun r17 s18 h => ?_))
          obtain ⟨q19, h⟩ := h
          refine fb_if_ne (tgt := 74) dd_Fb_faultOfProgram_69 rfl q19 (fun hc => ?_) (fun hc => ?_)
          · replace h := h.1 hc
            refine fb_aload_n dd_Fb_faultOfProgram_74 rfl (by decide) (fb_getR 0 1 dd_Fb_faultOfProgram_75 rfl rfl rfl (by decide) lk_Fb_21 ?_)
            refine fb_callVv (z := fb_Fr_placeVariables) (k := 2) (vs := []) (st := []) dd_Fb_faultOfProgram_78 vw_Fb_159 (by decide) rfl rfl rfl (np := 0) (by decide +kernel) rfl rfl rfl rfl rfl (fb_mono h (fun r20 s21 h => ?_))
            refine fb_iconst dd_Fb_faultOfProgram_81 ?_
            exact fb_iret dd_Fb_faultOfProgram_82 rfl h
          · replace h := h.2 hc
            refine fb_iconst dd_Fb_faultOfProgram_72 ?_
            exact fb_iret dd_Fb_faultOfProgram_73 rfl h
        · replace h := h.2 hc
          refine fb_iconst dd_Fb_faultOfProgram_53 ?_
          exact fb_iret dd_Fb_faultOfProgram_54 rfl h
      · replace h := h.2 hc
        refine fb_iconst dd_Fb_faultOfProgram_34 ?_
        exact fb_iret dd_Fb_faultOfProgram_35 rfl h
    · replace h := h.2 hc
      refine fb_iconst dd_Fb_faultOfProgram_22 ?_
      exact fb_iret dd_Fb_faultOfProgram_23 rfl h
  · replace h := h.2 hc
    refine fb_iconst dd_Fb_faultOfProgram_10 ?_
    exact fb_iret dd_Fb_faultOfProgram_11 rfl h
