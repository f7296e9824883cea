theorem Mo_change_b0 {E : fb_E} {σ : fb_S} {Q : Int → fb_S → Prop} (h : Q 0 (fb_sg (fb_sg σ 169 0) 182 0)) : fb_V E fb_Mo_change 0 [.inr 5] [] σ Q := by
  refine fb_aload_n dd_Mo_change_0 rfl (by decide) (fb_iconst dd_Mo_change_1 (fb_putZ 5 9 dd_Mo_change_2 (by decide) rfl rfl rfl (by decide) rfl (by decide +kernel) lk_Mo_65 (fb_aload_n dd_Mo_change_5 rfl (by decide) (fb_iconst dd_Mo_change_6 (fb_putZ 5 22 dd_Mo_change_7 (by decide) rfl rfl rfl (by decide) rfl (by decide +kernel) lk_Mo_69 ?_)))))
  exact fb_vret dd_Mo_change_10 rfl h

theorem Mo_function_b0 {E : fb_E} {σ : fb_S} {Q : Int → fb_S → Prop} (h : (-2147483648 ≤ (σ.1 160) ∧ (σ.1 160) < 2147483648) ∧ ((¬ (σ.1 160) = 6 → fb_V E fb_Mo_change 0 [.inr 5] [] σ (fun _ s3 => Q (((s3.1 160) + 1) - 1) (fb_sg s3 160 ((s3.1 160) + 1)))) ∧ ((σ.1 160) = 6 → Q (-1) σ))) : fb_V E fb_Mo_function 0 [.inr 5] [] σ Q := by
  refine fb_aload_n dd_Mo_function_0 rfl (by decide) (fb_getI (x := σ.1 160) 5 0 dd_Mo_function_1 rfl rfl rfl (by decide) lk_Mo_72 rfl (fb_bipush dd_Mo_function_4 (by decide) ?_))
  obtain ⟨q1, h⟩ := h
  refine fb_icmp_ne (tgt := 11) dd_Mo_function_6 rfl q1 (by decide) (fun hc => ?_) (fun hc => ?_)
  · replace h := h.1 hc
    refine fb_aload_n dd_Mo_function_11 rfl (by decide) ?_
    refine fb_callVv (z := fb_Mo_change) (k := 5) (vs := []) (st := []) dd_Mo_function_12 vw_Mo_76 (by decide) rfl rfl rfl (np := 0) (by decide +kernel) rfl rfl rfl rfl rfl (fb_mono h (fun r2 s3 h => ?_))
    refine fb_aload_n dd_Mo_function_15 rfl (by decide) (fb_dup dd_Mo_function_16 (fb_getI (x := s3.1 160) 5 0 dd_Mo_function_17 rfl rfl rfl (by decide) lk_Mo_72 rfl (fb_iconst dd_Mo_function_20 (fb_iadd dd_Mo_function_21 (fb_putI 5 0 dd_Mo_function_22 rfl rfl rfl (by decide) rfl (by decide +kernel) lk_Mo_72 (fb_aload_n dd_Mo_function_25 rfl (by decide) (fb_getI (x := (s3.1 160) + 1) 5 0 dd_Mo_function_26 rfl rfl rfl (by decide) lk_Mo_72 rfl ?_)))))))
    refine fb_iconst dd_Mo_function_29 (fb_isub dd_Mo_function_30 ?_)
    exact fb_iret dd_Mo_function_31 rfl h
  · replace h := h.2 hc
    refine fb_iconst dd_Mo_function_9 ?_
    exact fb_iret dd_Mo_function_10 rfl h

theorem Mo_variable_b0 {E : fb_E} {σ : fb_S} {Q : Int → fb_S → Prop} (v1 : Int) (h : (-2147483648 ≤ ((σ.1 160) - 1) ∧ ((σ.1 160) - 1) < 2147483648) ∧ ((((σ.1 160) - 1) < 0 → Q (-1) σ) ∧ (¬ ((σ.1 160) - 1) < 0 → (-2147483648 ≤ v1 ∧ v1 < 2147483648) ∧ ((v1 < 1 → Q (-1) σ) ∧ (¬ v1 < 1 → (8 < v1 → Q (-1) σ) ∧ (¬ 8 < v1 → (0 ≤ ((σ.1 160) - 1) ∧ ((σ.1 160) - 1) < 6) ∧ ((-2147483648 ≤ (σ.2 40 ((σ.1 160) - 1)) ∧ (σ.2 40 ((σ.1 160) - 1)) < 2147483648) ∧ ((¬ (σ.2 40 ((σ.1 160) - 1)) = 6 → fb_V E fb_Mo_change 0 [.inr 5] [] σ (fun _ s6 => (0 ≤ ((6 * ((σ.1 160) - 1)) + (s6.2 40 ((σ.1 160) - 1))) ∧ ((6 * ((σ.1 160) - 1)) + (s6.2 40 ((σ.1 160) - 1))) < 36) ∧ (Q (((s6.2 40 ((σ.1 160) - 1)) + 1) - 1) (fb_sm (fb_sm s6 42 ((6 * ((σ.1 160) - 1)) + (s6.2 40 ((σ.1 160) - 1))) v1) 40 ((σ.1 160) - 1) ((s6.2 40 ((σ.1 160) - 1)) + 1))))) ∧ ((σ.2 40 ((σ.1 160) - 1)) = 6 → Q (-1) σ))))))))) : fb_V E fb_Mo_variable 0 [.inr 5, .inl v1, .inr 999] [] σ Q := by
  refine fb_aload_n dd_Mo_variable_0 rfl (by decide) (fb_getI (x := σ.1 160) 5 0 dd_Mo_variable_1 rfl rfl rfl (by decide) lk_Mo_72 rfl (fb_iconst dd_Mo_variable_4 (fb_isub dd_Mo_variable_5 (fb_istore_n dd_Mo_variable_6 rfl rfl rfl (fb_iload_n dd_Mo_variable_7 rfl ?_)))))
  obtain ⟨q1, h⟩ := h
  refine fb_if_lt (tgt := 33) dd_Mo_variable_8 rfl q1 (fun hc => ?_) (fun hc => ?_)
  · replace h := h.1 hc
    refine fb_iconst dd_Mo_variable_33 ?_
    exact fb_iret dd_Mo_variable_34 rfl h
  · replace h := h.2 hc
    refine fb_iload_n dd_Mo_variable_11 rfl (fb_iconst dd_Mo_variable_12 ?_)
    obtain ⟨q2, h⟩ := h
    refine fb_icmp_lt (tgt := 33) dd_Mo_variable_13 rfl q2 (by decide) (fun hc => ?_) (fun hc => ?_)
    · replace h := h.1 hc
      refine fb_iconst dd_Mo_variable_33 ?_
      exact fb_iret dd_Mo_variable_34 rfl h
    · replace h := h.2 hc
      refine fb_iload_n dd_Mo_variable_16 rfl (fb_bipush dd_Mo_variable_17 (by decide) ?_)
      refine fb_icmp_gt (tgt := 33) dd_Mo_variable_19 rfl q2 (by decide) (fun hc => ?_) (fun hc => ?_)
      · replace h := h.1 hc
        refine fb_iconst dd_Mo_variable_33 ?_
        exact fb_iret dd_Mo_variable_34 rfl h
      · replace h := h.2 hc
        refine fb_aload_n dd_Mo_variable_22 rfl (by decide) (fb_getR 5 2 dd_Mo_variable_23 rfl rfl rfl (by decide) lk_Mo_7 (fb_iload_n dd_Mo_variable_26 rfl ?_))
        obtain ⟨q3, h⟩ := h
        refine fb_ild (x := σ.2 40 ((σ.1 160) - 1)) dd_Mo_variable_27 rfl q3 rfl (fb_bipush dd_Mo_variable_28 (by decide) ?_)
        obtain ⟨q4, h⟩ := h
        refine fb_icmp_ne (tgt := 35) dd_Mo_variable_30 rfl q4 (by decide) (fun hc => ?_) (fun hc => ?_)
        · replace h := h.1 hc
          refine fb_aload_n dd_Mo_variable_35 rfl (by decide) ?_
          refine fb_callVv (z := fb_Mo_change) (k := 5) (vs := []) (st := []) dd_Mo_variable_36 vw_Mo_76 (by decide) rfl rfl rfl (np := 0) (by decide +kernel) rfl rfl rfl rfl rfl (fb_mono h (fun r5 s6 h => ?_))
          refine fb_aload_n dd_Mo_variable_39 rfl (by decide) (fb_getR 5 4 dd_Mo_variable_40 rfl rfl rfl (by decide) lk_Mo_16 (fb_bipush dd_Mo_variable_43 (by decide) (fb_iload_n dd_Mo_variable_45 rfl (fb_imul dd_Mo_variable_46 (fb_aload_n dd_Mo_variable_47 rfl (by decide) (fb_getR 5 2 dd_Mo_variable_48 rfl rfl rfl (by decide) lk_Mo_7 (fb_iload_n dd_Mo_variable_51 rfl ?_)))))))
          refine fb_ild (x := s6.2 40 ((σ.1 160) - 1)) dd_Mo_variable_52 rfl q3 rfl (fb_iadd dd_Mo_variable_53 (fb_iload_n dd_Mo_variable_54 rfl ?_))
          obtain ⟨q7, h⟩ := h
          refine fb_ist dd_Mo_variable_55 rfl q7 (fb_aload_n dd_Mo_variable_56 rfl (by decide) (fb_getR 5 2 dd_Mo_variable_57 rfl rfl rfl (by decide) lk_Mo_7 (fb_iload_n dd_Mo_variable_60 rfl (fb_dup2 dd_Mo_variable_61 (fb_ild (x := s6.2 40 ((σ.1 160) - 1)) dd_Mo_variable_62 rfl q3 rfl (fb_iconst dd_Mo_variable_63 (fb_iadd dd_Mo_variable_64 ?_)))))))
          refine fb_ist dd_Mo_variable_65 rfl q3 (fb_aload_n dd_Mo_variable_66 rfl (by decide) (fb_getR 5 2 dd_Mo_variable_67 rfl rfl rfl (by decide) lk_Mo_7 (fb_iload_n dd_Mo_variable_70 rfl (fb_ild (x := (s6.2 40 ((σ.1 160) - 1)) + 1) dd_Mo_variable_71 rfl q3 (fb_same (fb_sm s6 42 ((6 * ((σ.1 160) - 1)) + (s6.2 40 ((σ.1 160) - 1))) v1) 40 ((σ.1 160) - 1) ((s6.2 40 ((σ.1 160) - 1)) + 1)) (fb_iconst dd_Mo_variable_72 (fb_isub dd_Mo_variable_73 ?_))))))
          exact fb_iret dd_Mo_variable_74 rfl h
        · replace h := h.2 hc
          refine fb_iconst dd_Mo_variable_33 ?_
          exact fb_iret dd_Mo_variable_34 rfl h

theorem Mo_is_b0 {E : fb_E} {σ : fb_S} {Q : Int → fb_S → Prop} (v1 v2 v3 : Int) (h : (-2147483648 ≤ v1 ∧ v1 < 2147483648) ∧ ((v1 < 0 → Q 0 σ) ∧ (¬ v1 < 0 → (0 ≤ ((σ.1 160) - 1) ∧ ((σ.1 160) - 1) < 6) ∧ ((-2147483648 ≤ (σ.2 40 ((σ.1 160) - 1)) ∧ (σ.2 40 ((σ.1 160) - 1)) < 2147483648) ∧ (((σ.2 40 ((σ.1 160) - 1)) ≤ v1 → Q 0 σ) ∧ (¬ (σ.2 40 ((σ.1 160) - 1)) ≤ v1 → (0 ≤ ((6 * ((σ.1 160) - 1)) + v1) ∧ ((6 * ((σ.1 160) - 1)) + v1) < 36) ∧ ((-2147483648 ≤ (σ.2 42 ((6 * ((σ.1 160) - 1)) + v1)) ∧ (σ.2 42 ((6 * ((σ.1 160) - 1)) + v1)) < 2147483648) ∧ ((-2147483648 ≤ v2 ∧ v2 < 2147483648) ∧ (((σ.2 42 ((6 * ((σ.1 160) - 1)) + v1)) < v2 → Q 0 σ) ∧ (¬ (σ.2 42 ((6 * ((σ.1 160) - 1)) + v1)) < v2 → (-2147483648 ≤ v3 ∧ v3 < 2147483648) ∧ ((v3 < (σ.2 42 ((6 * ((σ.1 160) - 1)) + v1)) → Q 0 σ) ∧ (¬ v3 < (σ.2 42 ((6 * ((σ.1 160) - 1)) + v1)) → Q 1 σ)))))))))))) : fb_V E fb_Mo_is 0 [.inr 5, .inl v1, .inl v2, .inl v3, .inr 999] [] σ Q := by
  refine fb_aload_n dd_Mo_is_0 rfl (by decide) (fb_getI (x := σ.1 160) 5 0 dd_Mo_is_1 rfl rfl rfl (by decide) lk_Mo_72 rfl (fb_iconst dd_Mo_is_4 (fb_isub dd_Mo_is_5 (fb_istore dd_Mo_is_6 rfl rfl rfl (fb_iload_n dd_Mo_is_8 rfl ?_)))))
  obtain ⟨q1, h⟩ := h
  refine fb_if_lt (tgt := 59) dd_Mo_is_9 rfl q1 (fun hc => ?_) (fun hc => ?_)
  · replace h := h.1 hc
    refine fb_iconst dd_Mo_is_59 ?_
    exact fb_zret dd_Mo_is_60 rfl (by decide) h
  · replace h := h.2 hc
    refine fb_iload_n dd_Mo_is_12 rfl (fb_aload_n dd_Mo_is_13 rfl (by decide) (fb_getR 5 2 dd_Mo_is_14 rfl rfl rfl (by decide) lk_Mo_7 (fb_iload dd_Mo_is_17 rfl ?_)))
    obtain ⟨q2, h⟩ := h
    refine fb_ild (x := σ.2 40 ((σ.1 160) - 1)) dd_Mo_is_19 rfl q2 rfl ?_
    obtain ⟨q3, h⟩ := h
    refine fb_icmp_ge (tgt := 59) dd_Mo_is_20 rfl q1 q3 (fun hc => ?_) (fun hc => ?_)
    · replace h := h.1 hc
      refine fb_iconst dd_Mo_is_59 ?_
      exact fb_zret dd_Mo_is_60 rfl (by decide) h
    · replace h := h.2 hc
      refine fb_aload_n dd_Mo_is_23 rfl (by decide) (fb_getR 5 4 dd_Mo_is_24 rfl rfl rfl (by decide) lk_Mo_16 (fb_bipush dd_Mo_is_27 (by decide) (fb_iload dd_Mo_is_29 rfl (fb_imul dd_Mo_is_31 (fb_iload_n dd_Mo_is_32 rfl (fb_iadd dd_Mo_is_33 ?_))))))
      obtain ⟨q4, h⟩ := h
      refine fb_ild (x := σ.2 42 ((6 * ((σ.1 160) - 1)) + v1)) dd_Mo_is_34 rfl q4 rfl (fb_iload_n dd_Mo_is_35 rfl ?_)
      obtain ⟨q5, h⟩ := h
      obtain ⟨q6, h⟩ := h
      refine fb_icmp_lt (tgt := 59) dd_Mo_is_36 rfl q5 q6 (fun hc => ?_) (fun hc => ?_)
      · replace h := h.1 hc
        refine fb_iconst dd_Mo_is_59 ?_
        exact fb_zret dd_Mo_is_60 rfl (by decide) h
      · replace h := h.2 hc
        refine fb_aload_n dd_Mo_is_39 rfl (by decide) (fb_getR 5 4 dd_Mo_is_40 rfl rfl rfl (by decide) lk_Mo_16 (fb_bipush dd_Mo_is_43 (by decide) (fb_iload dd_Mo_is_45 rfl (fb_imul dd_Mo_is_47 (fb_iload_n dd_Mo_is_48 rfl (fb_iadd dd_Mo_is_49 (fb_ild (x := σ.2 42 ((6 * ((σ.1 160) - 1)) + v1)) dd_Mo_is_50 rfl q4 rfl ?_)))))))
        refine fb_iload_n dd_Mo_is_51 rfl ?_
        obtain ⟨q7, h⟩ := h
        refine fb_icmp_gt (tgt := 59) dd_Mo_is_52 rfl q5 q7 (fun hc => ?_) (fun hc => ?_)
        · replace h := h.1 hc
          refine fb_iconst dd_Mo_is_59 ?_
          exact fb_zret dd_Mo_is_60 rfl (by decide) h
        · replace h := h.2 hc
          refine fb_iconst dd_Mo_is_55 (fb_goto (tgt := 60) dd_Mo_is_56 rfl ?_)
          exact fb_zret dd_Mo_is_60 rfl (by decide) h

theorem Mo_scalar_b0 {E : fb_E} {σ : fb_S} {Q : Int → fb_S → Prop} (v1 : Int) (h : fb_V E fb_Mo_is 0 [.inr 5, .inl v1, .inl 1, .inl 2, .inr 999] [] σ (fun r1 s2 => (r1 = 0 ∨ r1 = 1) ∧ (Q r1 s2))) : fb_V E fb_Mo_scalar 0 [.inr 5, .inl v1] [] σ Q := by
  refine fb_aload_n dd_Mo_scalar_0 rfl (by decide) (fb_iload_n dd_Mo_scalar_1 rfl (fb_iconst dd_Mo_scalar_2 (fb_iconst dd_Mo_scalar_3 ?_)))
  refine fb_callVi (z := fb_Mo_is) (k := 5) (vs := [.inl v1, .inl 1, .inl 2]) (st := []) dd_Mo_scalar_4 vw_Mo_79 (by decide) ⟨_, rfl⟩ rfl rfl (np := 3) (by decide +kernel) rfl rfl rfl rfl rfl (fb_mono h (fun r1 s2 h => ?_))
  obtain ⟨q3, h⟩ := h
  exact fb_zret dd_Mo_scalar_7 rfl q3 h

theorem Mo_fine_b0 {E : fb_E} {σ : fb_S} {Q : Int → fb_S → Prop} (v1 v2 v3 v4 : Int) (h : (-2147483648 ≤ v1 ∧ v1 < 2147483648) ∧ ((v1 = 0 → fb_V E fb_Mo_scalar 0 [.inr 5, .inl v2] [] σ (fun r2 s3 => (-2147483648 ≤ r2 ∧ r2 < 2147483648) ∧ ((r2 = 0 → Q 0 s3) ∧ (¬ r2 = 0 → (-2147483648 ≤ v3 ∧ v3 < 2147483648) ∧ ((v3 < 0 → Q 0 s3) ∧ (¬ v3 < 0 → (65535 < v3 → Q 0 s3) ∧ (¬ 65535 < v3 → Q 1 s3))))))) ∧ (v1 = 1 → fb_V E fb_Mo_scalar 0 [.inr 5, .inl v2] [] σ (fun r6 s7 => (-2147483648 ≤ r6 ∧ r6 < 2147483648) ∧ ((r6 = 0 → Q 0 s7) ∧ (¬ r6 = 0 → fb_V E fb_Mo_scalar 0 [.inr 5, .inl v3] [] s7 (fun r9 s10 => (-2147483648 ≤ r9 ∧ r9 < 2147483648) ∧ ((r9 = 0 → Q 0 s10) ∧ (¬ r9 = 0 → Q 1 s10))))))) ∧ (v1 = 2 ∨ v1 = 3 ∨ v1 = 4 ∨ v1 = 5 ∨ v1 = 6 → fb_V E fb_Mo_scalar 0 [.inr 5, .inl v2] [] σ (fun r12 s13 => (-2147483648 ≤ r12 ∧ r12 < 2147483648) ∧ ((r12 = 0 → Q 0 s13) ∧ (¬ r12 = 0 → fb_V E fb_Mo_scalar 0 [.inr 5, .inl v3] [] s13 (fun r15 s16 => (-2147483648 ≤ r15 ∧ r15 < 2147483648) ∧ ((r15 = 0 → Q 0 s16) ∧ (¬ r15 = 0 → fb_V E fb_Mo_scalar 0 [.inr 5, .inl v4] [] s16 (fun r18 s19 => (-2147483648 ≤ r18 ∧ r18 < 2147483648) ∧ ((r18 = 0 → Q 0 s19) ∧ (¬ r18 = 0 → Q 1 s19)))))))))) ∧ (v1 = 8 → fb_V E fb_Mo_scalar 0 [.inr 5, .inl v2] [] σ (fun r21 s22 => (-2147483648 ≤ r21 ∧ r21 < 2147483648) ∧ ((r21 = 0 → Q 0 s22) ∧ (¬ r21 = 0 → fb_V E fb_Mo_is 0 [.inr 5, .inl v3, .inl 3, .inl 8, .inr 999] [] s22 (fun r24 s25 => (-2147483648 ≤ r24 ∧ r24 < 2147483648) ∧ ((r24 = 0 → Q 0 s25) ∧ (¬ r24 = 0 → fb_V E fb_Mo_is 0 [.inr 5, .inl v4, .inl 1, .inl 1, .inr 999] [] s25 (fun r27 s28 => (-2147483648 ≤ r27 ∧ r27 < 2147483648) ∧ ((r27 = 0 → Q 0 s28) ∧ (¬ r27 = 0 → Q 1 s28)))))))))) ∧ (v1 = 9 → fb_V E fb_Mo_is 0 [.inr 5, .inl v2, .inl 3, .inl 8, .inr 999] [] σ (fun r30 s31 => (-2147483648 ≤ r30 ∧ r30 < 2147483648) ∧ ((r30 = 0 → Q 0 s31) ∧ (¬ r30 = 0 → fb_V E fb_Mo_is 0 [.inr 5, .inl v3, .inl 1, .inl 1, .inr 999] [] s31 (fun r33 s34 => (-2147483648 ≤ r33 ∧ r33 < 2147483648) ∧ ((r33 = 0 → Q 0 s34) ∧ (¬ r33 = 0 → fb_V E fb_Mo_scalar 0 [.inr 5, .inl v4] [] s34 (fun r36 s37 => (-2147483648 ≤ r36 ∧ r36 < 2147483648) ∧ ((r36 = 0 → Q 0 s37) ∧ (¬ r36 = 0 → Q 1 s37)))))))))) ∧ (v1 = 10 → Q 1 σ) ∧ (v1 = 12 → fb_V E fb_Mo_scalar 0 [.inr 5, .inl v2] [] σ (fun r39 s40 => (-2147483648 ≤ r39 ∧ r39 < 2147483648) ∧ ((r39 = 0 → Q 0 s40) ∧ (¬ r39 = 0 → fb_V E fb_Mo_scalar 0 [.inr 5, .inl v3] [] s40 (fun r42 s43 => (-2147483648 ≤ r42 ∧ r42 < 2147483648) ∧ ((r42 = 0 → Q 0 s43) ∧ (¬ r42 = 0 → Q 1 s43))))))) ∧ (v1 = 13 → fb_V E fb_Mo_scalar 0 [.inr 5, .inl v3] [] σ (fun r45 s46 => (-2147483648 ≤ r45 ∧ r45 < 2147483648) ∧ ((r45 = 0 → Q 0 s46) ∧ (¬ r45 = 0 → fb_V E fb_Mo_scalar 0 [.inr 5, .inl v4] [] s46 (fun r48 s49 => (-2147483648 ≤ r48 ∧ r48 < 2147483648) ∧ ((r48 = 0 → Q 0 s49) ∧ (¬ r48 = 0 → Q 1 s49))))))) ∧ ((¬ v1 = 0 ∧ ¬ v1 = 1 ∧ ¬ v1 = 2 ∧ ¬ v1 = 3 ∧ ¬ v1 = 4 ∧ ¬ v1 = 5 ∧ ¬ v1 = 6 ∧ ¬ v1 = 8 ∧ ¬ v1 = 9 ∧ ¬ v1 = 10 ∧ ¬ v1 = 12 ∧ ¬ v1 = 13) → fb_V E fb_Mo_scalar 0 [.inr 5, .inl v2] [] σ (fun r51 s52 => (r51 = 0 ∨ r51 = 1) ∧ (Q r51 s52))))) : fb_V E fb_Mo_fine 0 [.inr 5, .inl v1, .inl v2, .inl v3, .inl v4] [] σ Q := by
  refine fb_iload_n dd_Mo_fine_0 rfl ?_
  obtain ⟨q1, h⟩ := h
  rcases (show (v1 = 0) ∨ (v1 = 1) ∨ (v1 = 2 ∨ v1 = 3 ∨ v1 = 4 ∨ v1 = 5 ∨ v1 = 6) ∨ (v1 = 8) ∨ (v1 = 9) ∨ (v1 = 10) ∨ (v1 = 12) ∨ (v1 = 13) ∨ (¬ v1 = 0 ∧ ¬ v1 = 1 ∧ ¬ v1 = 2 ∧ ¬ v1 = 3 ∧ ¬ v1 = 4 ∧ ¬ v1 = 5 ∧ ¬ v1 = 6 ∧ ¬ v1 = 8 ∧ ¬ v1 = 9 ∧ ¬ v1 = 10 ∧ ¬ v1 = 12 ∧ ¬ v1 = 13) by omega) with hc | hc | hc | hc | hc | hc | hc | hc | hc
  · replace h := h.1 hc
    refine fb_tsIn (tgt := 72) (71) dd_Mo_fine_1 q1 (by omega) (by omega) (by rw [hc]; rfl) rfl ?_
    refine fb_aload_n dd_Mo_fine_72 rfl (by decide) (fb_iload_n dd_Mo_fine_73 rfl ?_)
    refine fb_callVi (z := fb_Mo_scalar) (k := 5) (vs := [.inl v2]) (st := []) dd_Mo_fine_74 vw_Mo_83 (by decide) ⟨_, rfl⟩ rfl rfl (np := 1) (by decide +kernel) rfl rfl rfl rfl rfl (fb_mono h (fun r2 s3 h => ?_))
    obtain ⟨q4, h⟩ := h
    refine fb_if_eq (tgt := 94) dd_Mo_fine_77 rfl q4 (fun hc => ?_) (fun hc => ?_)
    · replace h := h.1 hc
      refine fb_iconst dd_Mo_fine_94 ?_
      exact fb_zret dd_Mo_fine_95 rfl (by decide) h
    · replace h := h.2 hc
      refine fb_iload_n dd_Mo_fine_80 rfl ?_
      obtain ⟨q5, h⟩ := h
      refine fb_if_lt (tgt := 94) dd_Mo_fine_81 rfl q5 (fun hc => ?_) (fun hc => ?_)
      · replace h := h.1 hc
        refine fb_iconst dd_Mo_fine_94 ?_
        exact fb_zret dd_Mo_fine_95 rfl (by decide) h
      · replace h := h.2 hc
        refine fb_iload_n dd_Mo_fine_84 rfl (fb_ldc (n := 65535) dd_Mo_fine_85 cn_Mo_87 ?_)
        refine fb_icmp_gt (tgt := 94) dd_Mo_fine_87 rfl q5 (by decide) (fun hc => ?_) (fun hc => ?_)
        · replace h := h.1 hc
          refine fb_iconst dd_Mo_fine_94 ?_
          exact fb_zret dd_Mo_fine_95 rfl (by decide) h
        · replace h := h.2 hc
          refine fb_iconst dd_Mo_fine_90 (fb_goto (tgt := 95) dd_Mo_fine_91 rfl ?_)
          exact fb_zret dd_Mo_fine_95 rfl (by decide) h
  · replace h := h.2.1 hc
    refine fb_tsIn (tgt := 96) (95) dd_Mo_fine_1 q1 (by omega) (by omega) (by rw [hc]; rfl) rfl ?_
    refine fb_aload_n dd_Mo_fine_96 rfl (by decide) (fb_iload_n dd_Mo_fine_97 rfl ?_)
    refine fb_callVi (z := fb_Mo_scalar) (k := 5) (vs := [.inl v2]) (st := []) dd_Mo_fine_98 vw_Mo_83 (by decide) ⟨_, rfl⟩ rfl rfl (np := 1) (by decide +kernel) rfl rfl rfl rfl rfl (fb_mono h (fun r6 s7 h => ?_))
    obtain ⟨q8, h⟩ := h
    refine fb_if_eq (tgt := 116) dd_Mo_fine_101 rfl q8 (fun hc => ?_) (fun hc => ?_)
    · replace h := h.1 hc
      refine fb_iconst dd_Mo_fine_116 ?_
      exact fb_zret dd_Mo_fine_117 rfl (by decide) h
    · replace h := h.2 hc
      refine fb_aload_n dd_Mo_fine_104 rfl (by decide) (fb_iload_n dd_Mo_fine_105 rfl ?_)
      refine fb_callVi (z := fb_Mo_scalar) (k := 5) (vs := [.inl v3]) (st := []) dd_Mo_fine_106 vw_Mo_83 (by decide) ⟨_, rfl⟩ rfl rfl (np := 1) (by decide +kernel) rfl rfl rfl rfl rfl (fb_mono h (fun r9 s10 h => ?_))
      obtain ⟨q11, h⟩ := h
      refine fb_if_eq (tgt := 116) dd_Mo_fine_109 rfl q11 (fun hc => ?_) (fun hc => ?_)
      · replace h := h.1 hc
        refine fb_iconst dd_Mo_fine_116 ?_
        exact fb_zret dd_Mo_fine_117 rfl (by decide) h
      · replace h := h.2 hc
        refine fb_iconst dd_Mo_fine_112 (fb_goto (tgt := 117) dd_Mo_fine_113 rfl ?_)
        exact fb_zret dd_Mo_fine_117 rfl (by decide) h
  · replace h := h.2.2.1 hc
    refine fb_tsIn (tgt := 118) (117) dd_Mo_fine_1 q1 (by omega) (by omega) (by rcases hc with hc | hc | hc | hc | hc <;> rw [hc] <;> rfl) rfl ?_
    refine fb_aload_n dd_Mo_fine_118 rfl (by decide) (fb_iload_n dd_Mo_fine_119 rfl ?_)
    refine fb_callVi (z := fb_Mo_scalar) (k := 5) (vs := [.inl v2]) (st := []) dd_Mo_fine_120 vw_Mo_83 (by decide) ⟨_, rfl⟩ rfl rfl (np := 1) (by decide +kernel) rfl rfl rfl rfl rfl (fb_mono h (fun r12 s13 h => ?_))
    obtain ⟨q14, h⟩ := h
    refine fb_if_eq (tgt := 147) dd_Mo_fine_123 rfl q14 (fun hc => ?_) (fun hc => ?_)
    · replace h := h.1 hc
      refine fb_iconst dd_Mo_fine_147 ?_
      exact fb_zret dd_Mo_fine_148 rfl (by decide) h
    · replace h := h.2 hc
      refine fb_aload_n dd_Mo_fine_126 rfl (by decide) (fb_iload_n dd_Mo_fine_127 rfl ?_)
      refine fb_callVi (z := fb_Mo_scalar) (k := 5) (vs := [.inl v3]) (st := []) dd_Mo_fine_128 vw_Mo_83 (by decide) ⟨_, rfl⟩ rfl rfl (np := 1) (by decide +kernel) rfl rfl rfl rfl rfl (fb_mono h (fun r15 s16 h => ?_))
      obtain ⟨q17, h⟩ := h
      refine fb_if_eq (tgt := 147) dd_Mo_fine_131 rfl q17 (fun hc => ?_) (fun hc => ?_)
      · replace h := h.1 hc
        refine fb_iconst dd_Mo_fine_147 ?_
        exact fb_zret dd_Mo_fine_148 rfl (by decide) h
      · replace h := h.2 hc
        refine fb_aload_n dd_Mo_fine_134 rfl (by decide) (fb_iload dd_Mo_fine_135 rfl ?_)
        refine fb_callVi (z := fb_Mo_scalar) (k := 5) (vs := [.inl v4]) (st := []) dd_Mo_fine_137 vw_Mo_83 (by decide) ⟨_, rfl⟩ rfl rfl (np := 1) (by decide +kernel) rfl rfl rfl rfl rfl (fb_mono h (fun r18 s19 h => ?_))
        obtain ⟨q20, h⟩ := h
        refine fb_if_eq (tgt := 147) dd_Mo_fine_140 rfl q20 (fun hc => ?_) (fun hc => ?_)
        · replace h := h.1 hc
          refine fb_iconst dd_Mo_fine_147 ?_
          exact fb_zret dd_Mo_fine_148 rfl (by decide) h
        · replace h := h.2 hc
          refine fb_iconst dd_Mo_fine_143 (fb_goto (tgt := 148) dd_Mo_fine_144 rfl ?_)
          exact fb_zret dd_Mo_fine_148 rfl (by decide) h
  · replace h := h.2.2.2.1 hc
    refine fb_tsIn (tgt := 149) (148) dd_Mo_fine_1 q1 (by omega) (by omega) (by rw [hc]; rfl) rfl ?_
    refine fb_aload_n dd_Mo_fine_149 rfl (by decide) (fb_iload_n dd_Mo_fine_150 rfl ?_)
    refine fb_callVi (z := fb_Mo_scalar) (k := 5) (vs := [.inl v2]) (st := []) dd_Mo_fine_151 vw_Mo_83 (by decide) ⟨_, rfl⟩ rfl rfl (np := 1) (by decide +kernel) rfl rfl rfl rfl rfl (fb_mono h (fun r21 s22 h => ?_))
    obtain ⟨q23, h⟩ := h
    refine fb_if_eq (tgt := 183) dd_Mo_fine_154 rfl q23 (fun hc => ?_) (fun hc => ?_)
    · replace h := h.1 hc
      refine fb_iconst dd_Mo_fine_183 ?_
      exact fb_zret dd_Mo_fine_184 rfl (by decide) h
    · replace h := h.2 hc
      refine fb_aload_n dd_Mo_fine_157 rfl (by decide) (fb_iload_n dd_Mo_fine_158 rfl (fb_iconst dd_Mo_fine_159 (fb_bipush dd_Mo_fine_160 (by decide) ?_)))
      refine fb_callVi (z := fb_Mo_is) (k := 5) (vs := [.inl v3, .inl 3, .inl 8]) (st := []) dd_Mo_fine_162 vw_Mo_79 (by decide) ⟨_, rfl⟩ rfl rfl (np := 3) (by decide +kernel) rfl rfl rfl rfl rfl (fb_mono h (fun r24 s25 h => ?_))
      obtain ⟨q26, h⟩ := h
      refine fb_if_eq (tgt := 183) dd_Mo_fine_165 rfl q26 (fun hc => ?_) (fun hc => ?_)
      · replace h := h.1 hc
        refine fb_iconst dd_Mo_fine_183 ?_
        exact fb_zret dd_Mo_fine_184 rfl (by decide) h
      · replace h := h.2 hc
        refine fb_aload_n dd_Mo_fine_168 rfl (by decide) (fb_iload dd_Mo_fine_169 rfl (fb_iconst dd_Mo_fine_171 (fb_iconst dd_Mo_fine_172 ?_)))
        refine fb_callVi (z := fb_Mo_is) (k := 5) (vs := [.inl v4, .inl 1, .inl 1]) (st := []) dd_Mo_fine_173 vw_Mo_79 (by decide) ⟨_, rfl⟩ rfl rfl (np := 3) (by decide +kernel) rfl rfl rfl rfl rfl (fb_mono h (fun r27 s28 h => ?_))
        obtain ⟨q29, h⟩ := h
        refine fb_if_eq (tgt := 183) dd_Mo_fine_176 rfl q29 (fun hc => ?_) (fun hc => ?_)
        · replace h := h.1 hc
          refine fb_iconst dd_Mo_fine_183 ?_
          exact fb_zret dd_Mo_fine_184 rfl (by decide) h
        · replace h := h.2 hc
          refine fb_iconst dd_Mo_fine_179 (fb_goto (tgt := 184) dd_Mo_fine_180 rfl ?_)
          exact fb_zret dd_Mo_fine_184 rfl (by decide) h
  · replace h := h.2.2.2.2.1 hc
    refine fb_tsIn (tgt := 185) (184) dd_Mo_fine_1 q1 (by omega) (by omega) (by rw [hc]; rfl) rfl ?_
    refine fb_aload_n dd_Mo_fine_185 rfl (by decide) (fb_iload_n dd_Mo_fine_186 rfl (fb_iconst dd_Mo_fine_187 (fb_bipush dd_Mo_fine_188 (by decide) ?_)))
    refine fb_callVi (z := fb_Mo_is) (k := 5) (vs := [.inl v2, .inl 3, .inl 8]) (st := []) dd_Mo_fine_190 vw_Mo_79 (by decide) ⟨_, rfl⟩ rfl rfl (np := 3) (by decide +kernel) rfl rfl rfl rfl rfl (fb_mono h (fun r30 s31 h => ?_))
    obtain ⟨q32, h⟩ := h
    refine fb_if_eq (tgt := 219) dd_Mo_fine_193 rfl q32 (fun hc => ?_) (fun hc => ?_)
    · replace h := h.1 hc
      refine fb_iconst dd_Mo_fine_219 ?_
      exact fb_zret dd_Mo_fine_220 rfl (by decide) h
    · replace h := h.2 hc
      refine fb_aload_n dd_Mo_fine_196 rfl (by decide) (fb_iload_n dd_Mo_fine_197 rfl (fb_iconst dd_Mo_fine_198 (fb_iconst dd_Mo_fine_199 ?_)))
      refine fb_callVi (z := fb_Mo_is) (k := 5) (vs := [.inl v3, .inl 1, .inl 1]) (st := []) dd_Mo_fine_200 vw_Mo_79 (by decide) ⟨_, rfl⟩ rfl rfl (np := 3) (by decide +kernel) rfl rfl rfl rfl rfl (fb_mono h (fun r33 s34 h => ?_))
      obtain ⟨q35, h⟩ := h
      refine fb_if_eq (tgt := 219) dd_Mo_fine_203 rfl q35 (fun hc => ?_) (fun hc => ?_)
      · replace h := h.1 hc
        refine fb_iconst dd_Mo_fine_219 ?_
        exact fb_zret dd_Mo_fine_220 rfl (by decide) h
      · replace h := h.2 hc
        refine fb_aload_n dd_Mo_fine_206 rfl (by decide) (fb_iload dd_Mo_fine_207 rfl ?_)
        refine fb_callVi (z := fb_Mo_scalar) (k := 5) (vs := [.inl v4]) (st := []) dd_Mo_fine_209 vw_Mo_83 (by decide) ⟨_, rfl⟩ rfl rfl (np := 1) (by decide +kernel) rfl rfl rfl rfl rfl (fb_mono h (fun r36 s37 h => ?_))
        obtain ⟨q38, h⟩ := h
        refine fb_if_eq (tgt := 219) dd_Mo_fine_212 rfl q38 (fun hc => ?_) (fun hc => ?_)
        · replace h := h.1 hc
          refine fb_iconst dd_Mo_fine_219 ?_
          exact fb_zret dd_Mo_fine_220 rfl (by decide) h
        · replace h := h.2 hc
          refine fb_iconst dd_Mo_fine_215 (fb_goto (tgt := 220) dd_Mo_fine_216 rfl ?_)
          exact fb_zret dd_Mo_fine_220 rfl (by decide) h
  · replace h := h.2.2.2.2.2.1 hc
    refine fb_tsIn (tgt := 221) (220) dd_Mo_fine_1 q1 (by omega) (by omega) (by rw [hc]; rfl) rfl ?_
    refine fb_iconst dd_Mo_fine_221 ?_
    exact fb_zret dd_Mo_fine_222 rfl (by decide) h
  · replace h := h.2.2.2.2.2.2.1 hc
    refine fb_tsIn (tgt := 223) (222) dd_Mo_fine_1 q1 (by omega) (by omega) (by rw [hc]; rfl) rfl ?_
    refine fb_aload_n dd_Mo_fine_223 rfl (by decide) (fb_iload_n dd_Mo_fine_224 rfl ?_)
    refine fb_callVi (z := fb_Mo_scalar) (k := 5) (vs := [.inl v2]) (st := []) dd_Mo_fine_225 vw_Mo_83 (by decide) ⟨_, rfl⟩ rfl rfl (np := 1) (by decide +kernel) rfl rfl rfl rfl rfl (fb_mono h (fun r39 s40 h => ?_))
    obtain ⟨q41, h⟩ := h
    refine fb_if_eq (tgt := 243) dd_Mo_fine_228 rfl q41 (fun hc => ?_) (fun hc => ?_)
    · replace h := h.1 hc
      refine fb_iconst dd_Mo_fine_243 ?_
      exact fb_zret dd_Mo_fine_244 rfl (by decide) h
    · replace h := h.2 hc
      refine fb_aload_n dd_Mo_fine_231 rfl (by decide) (fb_iload_n dd_Mo_fine_232 rfl ?_)
      refine fb_callVi (z := fb_Mo_scalar) (k := 5) (vs := [.inl v3]) (st := []) dd_Mo_fine_233 vw_Mo_83 (by decide) ⟨_, rfl⟩ rfl rfl (np := 1) (by decide +kernel) rfl rfl rfl rfl rfl (fb_mono h (fun r42 s43 h => ?_))
      obtain ⟨q44, h⟩ := h
      refine fb_if_eq (tgt := 243) dd_Mo_fine_236 rfl q44 (fun hc => ?_) (fun hc => ?_)
      · replace h := h.1 hc
        refine fb_iconst dd_Mo_fine_243 ?_
        exact fb_zret dd_Mo_fine_244 rfl (by decide) h
      · replace h := h.2 hc
        refine fb_iconst dd_Mo_fine_239 (fb_goto (tgt := 244) dd_Mo_fine_240 rfl ?_)
        exact fb_zret dd_Mo_fine_244 rfl (by decide) h
  · replace h := h.2.2.2.2.2.2.2.1 hc
    refine fb_tsIn (tgt := 245) (244) dd_Mo_fine_1 q1 (by omega) (by omega) (by rw [hc]; rfl) rfl ?_
    refine fb_aload_n dd_Mo_fine_245 rfl (by decide) (fb_iload_n dd_Mo_fine_246 rfl ?_)
    refine fb_callVi (z := fb_Mo_scalar) (k := 5) (vs := [.inl v3]) (st := []) dd_Mo_fine_247 vw_Mo_83 (by decide) ⟨_, rfl⟩ rfl rfl (np := 1) (by decide +kernel) rfl rfl rfl rfl rfl (fb_mono h (fun r45 s46 h => ?_))
    obtain ⟨q47, h⟩ := h
    refine fb_if_eq (tgt := 266) dd_Mo_fine_250 rfl q47 (fun hc => ?_) (fun hc => ?_)
    · replace h := h.1 hc
      refine fb_iconst dd_Mo_fine_266 ?_
      exact fb_zret dd_Mo_fine_267 rfl (by decide) h
    · replace h := h.2 hc
      refine fb_aload_n dd_Mo_fine_253 rfl (by decide) (fb_iload dd_Mo_fine_254 rfl ?_)
      refine fb_callVi (z := fb_Mo_scalar) (k := 5) (vs := [.inl v4]) (st := []) dd_Mo_fine_256 vw_Mo_83 (by decide) ⟨_, rfl⟩ rfl rfl (np := 1) (by decide +kernel) rfl rfl rfl rfl rfl (fb_mono h (fun r48 s49 h => ?_))
      obtain ⟨q50, h⟩ := h
      refine fb_if_eq (tgt := 266) dd_Mo_fine_259 rfl q50 (fun hc => ?_) (fun hc => ?_)
      · replace h := h.1 hc
        refine fb_iconst dd_Mo_fine_266 ?_
        exact fb_zret dd_Mo_fine_267 rfl (by decide) h
      · replace h := h.2 hc
        refine fb_iconst dd_Mo_fine_262 (fb_goto (tgt := 267) dd_Mo_fine_263 rfl ?_)
        exact fb_zret dd_Mo_fine_267 rfl (by decide) h
  · replace h := h.2.2.2.2.2.2.2.2 hc
    rcases (show v1 = 7 ∨ v1 = 11 ∨ (v1 < 0 ∨ 13 < v1) by omega) with hd | hd | hd
    · refine fb_tsIn (tgt := 268) (267) dd_Mo_fine_1 q1 (by omega) (by omega) (by rw [hd]; rfl) rfl ?_
      refine fb_aload_n dd_Mo_fine_268 rfl (by decide) (fb_iload_n dd_Mo_fine_269 rfl ?_)
      refine fb_callVi (z := fb_Mo_scalar) (k := 5) (vs := [.inl v2]) (st := []) dd_Mo_fine_270 vw_Mo_83 (by decide) ⟨_, rfl⟩ rfl rfl (np := 1) (by decide +kernel) rfl rfl rfl rfl rfl (fb_mono h (fun r51 s52 h => ?_))
      obtain ⟨q53, h⟩ := h
      exact fb_zret dd_Mo_fine_273 rfl q53 h
    · refine fb_tsIn (tgt := 268) (267) dd_Mo_fine_1 q1 (by omega) (by omega) (by rw [hd]; rfl) rfl ?_
      refine fb_aload_n dd_Mo_fine_268 rfl (by decide) (fb_iload_n dd_Mo_fine_269 rfl ?_)
      refine fb_callVi (z := fb_Mo_scalar) (k := 5) (vs := [.inl v2]) (st := []) dd_Mo_fine_270 vw_Mo_83 (by decide) ⟨_, rfl⟩ rfl rfl (np := 1) (by decide +kernel) rfl rfl rfl rfl rfl (fb_mono h (fun r51 s52 h => ?_))
      obtain ⟨q53, h⟩ := h
      exact fb_zret dd_Mo_fine_273 rfl q53 h
    · refine fb_tsOut (tgt := 268) dd_Mo_fine_1 q1 hd rfl ?_
      refine fb_aload_n dd_Mo_fine_268 rfl (by decide) (fb_iload_n dd_Mo_fine_269 rfl ?_)
      refine fb_callVi (z := fb_Mo_scalar) (k := 5) (vs := [.inl v2]) (st := []) dd_Mo_fine_270 vw_Mo_83 (by decide) ⟨_, rfl⟩ rfl rfl (np := 1) (by decide +kernel) rfl rfl rfl rfl rfl (fb_mono h (fun r51 s52 h => ?_))
      obtain ⟨q53, h⟩ := h
      exact fb_zret dd_Mo_fine_273 rfl q53 h

theorem Mo_op_b0 {E : fb_E} {σ : fb_S} {Q : Int → fb_S → Prop} (v1 v2 v3 v4 : Int) (h : (-2147483648 ≤ ((σ.1 160) - 1) ∧ ((σ.1 160) - 1) < 2147483648) ∧ ((((σ.1 160) - 1) < 0 → Q (-1) σ) ∧ (¬ ((σ.1 160) - 1) < 0 → (-2147483648 ≤ v1 ∧ v1 < 2147483648) ∧ ((v1 < 0 → Q (-1) σ) ∧ (¬ v1 < 0 → (15 < v1 → Q (-1) σ) ∧ (¬ 15 < v1 → (0 ≤ ((σ.1 160) - 1) ∧ ((σ.1 160) - 1) < 6) ∧ ((-2147483648 ≤ (σ.2 41 ((σ.1 160) - 1)) ∧ (σ.2 41 ((σ.1 160) - 1)) < 2147483648) ∧ (((σ.2 41 ((σ.1 160) - 1)) = 24 → Q (-1) σ) ∧ (¬ (σ.2 41 ((σ.1 160) - 1)) = 24 → (-2147483648 ≤ (σ.1 161) ∧ (σ.1 161) < 2147483648) ∧ (((σ.1 161) = 60 → Q (-1) σ) ∧ (¬ (σ.1 161) = 60 → fb_V E fb_Mo_fine 0 [.inr 5, .inl v1, .inl v2, .inl v3, .inl v4] [] σ (fun r6 s7 => (-2147483648 ≤ r6 ∧ r6 < 2147483648) ∧ ((¬ r6 = 0 → fb_V E fb_Mo_change 0 [.inr 5] [] s7 (fun _ s10 => (0 ≤ ((24 * ((σ.1 160) - 1)) + (s10.2 41 ((σ.1 160) - 1))) ∧ ((24 * ((σ.1 160) - 1)) + (s10.2 41 ((σ.1 160) - 1))) < 144) ∧ (Q (((s10.2 41 ((σ.1 160) - 1)) + 1) - 1) (fb_sg (fb_sm (fb_sm (fb_sm (fb_sm (fb_sm s10 43 ((24 * ((σ.1 160) - 1)) + (s10.2 41 ((σ.1 160) - 1))) v1) 44 ((24 * ((σ.1 160) - 1)) + (s10.2 41 ((σ.1 160) - 1))) v2) 45 ((24 * ((σ.1 160) - 1)) + (s10.2 41 ((σ.1 160) - 1))) v3) 46 ((24 * ((σ.1 160) - 1)) + (s10.2 41 ((σ.1 160) - 1))) v4) 41 ((σ.1 160) - 1) ((s10.2 41 ((σ.1 160) - 1)) + 1)) 161 ((s10.1 161) + 1))))) ∧ (r6 = 0 → Q (-1) s7)))))))))))))) : fb_V E fb_Mo_op 0 [.inr 5, .inl v1, .inl v2, .inl v3, .inl v4, .inr 999, .inr 999] [] σ Q := by
  refine fb_aload_n dd_Mo_op_0 rfl (by decide) (fb_getI (x := σ.1 160) 5 0 dd_Mo_op_1 rfl rfl rfl (by decide) lk_Mo_72 rfl (fb_iconst dd_Mo_op_4 (fb_isub dd_Mo_op_5 (fb_istore dd_Mo_op_6 rfl rfl rfl (fb_iload dd_Mo_op_8 rfl ?_)))))
  obtain ⟨q1, h⟩ := h
  refine fb_if_lt (tgt := 56) dd_Mo_op_10 rfl q1 (fun hc => ?_) (fun hc => ?_)
  · replace h := h.1 hc
    refine fb_iconst dd_Mo_op_56 ?_
    exact fb_iret dd_Mo_op_57 rfl h
  · replace h := h.2 hc
    refine fb_iload_n dd_Mo_op_13 rfl ?_
    obtain ⟨q2, h⟩ := h
    refine fb_if_lt (tgt := 56) dd_Mo_op_14 rfl q2 (fun hc => ?_) (fun hc => ?_)
    · replace h := h.1 hc
      refine fb_iconst dd_Mo_op_56 ?_
      exact fb_iret dd_Mo_op_57 rfl h
    · replace h := h.2 hc
      refine fb_iload_n dd_Mo_op_17 rfl (fb_bipush dd_Mo_op_18 (by decide) ?_)
      refine fb_icmp_gt (tgt := 56) dd_Mo_op_20 rfl q2 (by decide) (fun hc => ?_) (fun hc => ?_)
      · replace h := h.1 hc
        refine fb_iconst dd_Mo_op_56 ?_
        exact fb_iret dd_Mo_op_57 rfl h
      · replace h := h.2 hc
        refine fb_aload_n dd_Mo_op_23 rfl (by decide) (fb_getR 5 3 dd_Mo_op_24 rfl rfl rfl (by decide) lk_Mo_13 (fb_iload dd_Mo_op_27 rfl ?_))
        obtain ⟨q3, h⟩ := h
        refine fb_ild (x := σ.2 41 ((σ.1 160) - 1)) dd_Mo_op_29 rfl q3 rfl (fb_bipush dd_Mo_op_30 (by decide) ?_)
        obtain ⟨q4, h⟩ := h
        refine fb_icmp_eq (tgt := 56) dd_Mo_op_32 rfl q4 (by decide) (fun hc => ?_) (fun hc => ?_)
        · replace h := h.1 hc
          refine fb_iconst dd_Mo_op_56 ?_
          exact fb_iret dd_Mo_op_57 rfl h
        · replace h := h.2 hc
          refine fb_aload_n dd_Mo_op_35 rfl (by decide) (fb_getI (x := σ.1 161) 5 1 dd_Mo_op_36 rfl rfl rfl (by decide) lk_Mo_88 rfl (fb_bipush dd_Mo_op_39 (by decide) ?_))
          obtain ⟨q5, h⟩ := h
          refine fb_icmp_eq (tgt := 56) dd_Mo_op_41 rfl q5 (by decide) (fun hc => ?_) (fun hc => ?_)
          · replace h := h.1 hc
            refine fb_iconst dd_Mo_op_56 ?_
            exact fb_iret dd_Mo_op_57 rfl h
          · replace h := h.2 hc
            refine fb_aload_n dd_Mo_op_44 rfl (by decide) (fb_iload_n dd_Mo_op_45 rfl (fb_iload_n dd_Mo_op_46 rfl (fb_iload_n dd_Mo_op_47 rfl (fb_iload dd_Mo_op_48 rfl ?_))))
            refine fb_callVi (z := fb_Mo_fine) (k := 5) (vs := [.inl v1, .inl v2, .inl v3, .inl v4]) (st := []) dd_Mo_op_50 vw_Mo_91 (by decide) ⟨_, rfl⟩ rfl rfl (np := 4) (by decide +kernel) rfl rfl rfl rfl rfl (fb_mono h (fun r6 s7 h => ?_))
            obtain ⟨q8, h⟩ := h
            refine fb_if_ne (tgt := 58) dd_Mo_op_53 rfl q8 (fun hc => ?_) (fun hc => ?_)
            · replace h := h.1 hc
              refine fb_aload_n dd_Mo_op_58 rfl (by decide) ?_
              refine fb_callVv (z := fb_Mo_change) (k := 5) (vs := []) (st := []) dd_Mo_op_59 vw_Mo_76 (by decide) rfl rfl rfl (np := 0) (by decide +kernel) rfl rfl rfl rfl rfl (fb_mono h (fun r9 s10 h => ?_))
              refine fb_bipush dd_Mo_op_62 (by decide) (fb_iload dd_Mo_op_64 rfl (fb_imul dd_Mo_op_66 (fb_aload_n dd_Mo_op_67 rfl (by decide) (fb_getR 5 3 dd_Mo_op_68 rfl rfl rfl (by decide) lk_Mo_13 (fb_iload dd_Mo_op_71 rfl (fb_ild (x := s10.2 41 ((σ.1 160) - 1)) dd_Mo_op_73 rfl q3 rfl (fb_iadd dd_Mo_op_74 ?_)))))))
              refine fb_istore dd_Mo_op_75 rfl rfl rfl (fb_aload_n dd_Mo_op_77 rfl (by decide) (fb_getR 5 5 dd_Mo_op_78 rfl rfl rfl (by decide) lk_Mo_19 (fb_iload dd_Mo_op_81 rfl (fb_iload_n dd_Mo_op_83 rfl ?_))))
              obtain ⟨q11, h⟩ := h
              refine fb_ist dd_Mo_op_84 rfl q11 (fb_aload_n dd_Mo_op_85 rfl (by decide) (fb_getR 5 6 dd_Mo_op_86 rfl rfl rfl (by decide) lk_Mo_22 (fb_iload dd_Mo_op_89 rfl (fb_iload_n dd_Mo_op_91 rfl (fb_ist dd_Mo_op_92 rfl q11 (fb_aload_n dd_Mo_op_93 rfl (by decide) (fb_getR 5 7 dd_Mo_op_94 rfl rfl rfl (by decide) lk_Mo_25 ?_)))))))
              refine fb_iload dd_Mo_op_97 rfl (fb_iload_n dd_Mo_op_99 rfl (fb_ist dd_Mo_op_100 rfl q11 (fb_aload_n dd_Mo_op_101 rfl (by decide) (fb_getR 5 8 dd_Mo_op_102 rfl rfl rfl (by decide) lk_Mo_28 (fb_iload dd_Mo_op_105 rfl (fb_iload dd_Mo_op_107 rfl (fb_ist dd_Mo_op_109 rfl q11 ?_)))))))
              refine fb_aload_n dd_Mo_op_110 rfl (by decide) (fb_getR 5 3 dd_Mo_op_111 rfl rfl rfl (by decide) lk_Mo_13 (fb_iload dd_Mo_op_114 rfl (fb_dup2 dd_Mo_op_116 (fb_ild (x := s10.2 41 ((σ.1 160) - 1)) dd_Mo_op_117 rfl q3 rfl (fb_iconst dd_Mo_op_118 (fb_iadd dd_Mo_op_119 (fb_ist dd_Mo_op_120 rfl q3 ?_)))))))
              refine fb_aload_n dd_Mo_op_121 rfl (by decide) (fb_dup dd_Mo_op_122 (fb_getI (x := s10.1 161) 5 1 dd_Mo_op_123 rfl rfl rfl (by decide) lk_Mo_88 rfl (fb_iconst dd_Mo_op_126 (fb_iadd dd_Mo_op_127 (fb_putI 5 1 dd_Mo_op_128 rfl rfl rfl (by decide) rfl (by decide +kernel) lk_Mo_88 (fb_aload_n dd_Mo_op_131 rfl (by decide) (fb_getR 5 3 dd_Mo_op_132 rfl rfl rfl (by decide) lk_Mo_13 ?_)))))))
              refine fb_iload dd_Mo_op_135 rfl (fb_ild (x := (s10.2 41 ((σ.1 160) - 1)) + 1) dd_Mo_op_137 rfl q3 (fb_same (fb_sm (fb_sm (fb_sm (fb_sm s10 43 ((24 * ((σ.1 160) - 1)) + (s10.2 41 ((σ.1 160) - 1))) v1) 44 ((24 * ((σ.1 160) - 1)) + (s10.2 41 ((σ.1 160) - 1))) v2) 45 ((24 * ((σ.1 160) - 1)) + (s10.2 41 ((σ.1 160) - 1))) v3) 46 ((24 * ((σ.1 160) - 1)) + (s10.2 41 ((σ.1 160) - 1))) v4) 41 ((σ.1 160) - 1) ((s10.2 41 ((σ.1 160) - 1)) + 1)) (fb_iconst dd_Mo_op_138 (fb_isub dd_Mo_op_139 ?_)))
              exact fb_iret dd_Mo_op_140 rfl h
            · replace h := h.2 hc
              refine fb_iconst dd_Mo_op_56 ?_
              exact fb_iret dd_Mo_op_57 rfl h

theorem Mo_branches_b0 {E : fb_E} {σ : fb_S} {Q : Int → fb_S → Prop} (v0 : Int) (h : (-2147483648 ≤ v0 ∧ v0 < 2147483648) ∧ ((v0 = 11 → Q 1 σ) ∧ (¬ v0 = 11 → (¬ v0 = 12 → Q 0 σ) ∧ (v0 = 12 → Q 1 σ)))) : fb_V E fb_Mo_branches 0 [.inl v0] [] σ Q := by
  refine fb_iload_n dd_Mo_branches_0 rfl (fb_bipush dd_Mo_branches_1 (by decide) ?_)
  obtain ⟨q1, h⟩ := h
  refine fb_icmp_eq (tgt := 12) dd_Mo_branches_3 rfl q1 (by decide) (fun hc => ?_) (fun hc => ?_)
  · replace h := h.1 hc
    refine fb_iconst dd_Mo_branches_12 (fb_goto (tgt := 17) dd_Mo_branches_13 rfl ?_)
    exact fb_zret dd_Mo_branches_17 rfl (by decide) h
  · replace h := h.2 hc
    refine fb_iload_n dd_Mo_branches_6 rfl (fb_bipush dd_Mo_branches_7 (by decide) ?_)
    refine fb_icmp_ne (tgt := 16) dd_Mo_branches_9 rfl q1 (by decide) (fun hc => ?_) (fun hc => ?_)
    · replace h := h.1 hc
      refine fb_iconst dd_Mo_branches_16 ?_
      exact fb_zret dd_Mo_branches_17 rfl (by decide) h
    · replace h := h.2 hc
      refine fb_iconst dd_Mo_branches_12 (fb_goto (tgt := 17) dd_Mo_branches_13 rfl ?_)
      exact fb_zret dd_Mo_branches_17 rfl (by decide) h

theorem Mo_goal_b0 {E : fb_E} {σ : fb_S} {Q : Int → fb_S → Prop} (v1 : Int) (h : (0 ≤ v1 ∧ v1 < 144) ∧ ((-2147483648 ≤ (σ.2 43 v1) ∧ (σ.2 43 v1) < 2147483648) ∧ ((¬ (σ.2 43 v1) = 10 → (¬ (σ.2 43 v1) = 11 → Q (σ.2 46 v1) σ) ∧ ((σ.2 43 v1) = 11 → Q (σ.2 45 v1) σ)) ∧ ((σ.2 43 v1) = 10 → Q (σ.2 44 v1) σ)))) : fb_V E fb_Mo_goal 0 [.inr 5, .inl v1] [] σ Q := by
  refine fb_aload_n dd_Mo_goal_0 rfl (by decide) (fb_getR 5 5 dd_Mo_goal_1 rfl rfl rfl (by decide) lk_Mo_19 (fb_iload_n dd_Mo_goal_4 rfl ?_))
  obtain ⟨q1, h⟩ := h
  refine fb_ild (x := σ.2 43 v1) dd_Mo_goal_5 rfl q1 rfl (fb_bipush dd_Mo_goal_6 (by decide) ?_)
  obtain ⟨q2, h⟩ := h
  refine fb_icmp_ne (tgt := 20) dd_Mo_goal_8 rfl q2 (by decide) (fun hc => ?_) (fun hc => ?_)
  · replace h := h.1 hc
    refine fb_aload_n dd_Mo_goal_20 rfl (by decide) (fb_getR 5 5 dd_Mo_goal_21 rfl rfl rfl (by decide) lk_Mo_19 (fb_iload_n dd_Mo_goal_24 rfl (fb_ild (x := σ.2 43 v1) dd_Mo_goal_25 rfl q1 rfl (fb_bipush dd_Mo_goal_26 (by decide) ?_))))
    refine fb_icmp_ne (tgt := 40) dd_Mo_goal_28 rfl q2 (by decide) (fun hc => ?_) (fun hc => ?_)
    · replace h := h.1 hc
      refine fb_aload_n dd_Mo_goal_40 rfl (by decide) (fb_getR 5 8 dd_Mo_goal_41 rfl rfl rfl (by decide) lk_Mo_28 (fb_iload_n dd_Mo_goal_44 rfl (fb_ild (x := σ.2 46 v1) dd_Mo_goal_45 rfl q1 rfl ?_)))
      exact fb_iret dd_Mo_goal_46 rfl h
    · replace h := h.2 hc
      refine fb_aload_n dd_Mo_goal_31 rfl (by decide) (fb_getR 5 7 dd_Mo_goal_32 rfl rfl rfl (by decide) lk_Mo_25 (fb_iload_n dd_Mo_goal_35 rfl (fb_ild (x := σ.2 45 v1) dd_Mo_goal_36 rfl q1 rfl (fb_goto (tgt := 46) dd_Mo_goal_37 rfl ?_))))
      exact fb_iret dd_Mo_goal_46 rfl h
  · replace h := h.2 hc
    refine fb_aload_n dd_Mo_goal_11 rfl (by decide) (fb_getR 5 6 dd_Mo_goal_12 rfl rfl rfl (by decide) lk_Mo_22 (fb_iload_n dd_Mo_goal_15 rfl (fb_ild (x := σ.2 44 v1) dd_Mo_goal_16 rfl q1 rfl (fb_goto (tgt := 46) dd_Mo_goal_17 rfl ?_))))
    exact fb_iret dd_Mo_goal_46 rfl h

theorem Mo_ended_b0 {E : fb_E} {σ : fb_S} {Q : Int → fb_S → Prop} (h : fb_V E fb_Mo_ended 2 [.inr 5, .inl 0, .inr 999] [] σ Q) : fb_V E fb_Mo_ended 0 [.inr 5, .inr 999, .inr 999] [] σ Q := by
  refine fb_iconst dd_Mo_ended_0 (fb_istore_n dd_Mo_ended_1 rfl rfl rfl ?_)
  exact h
theorem Mo_ended_b2 {E : fb_E} {σ : fb_S} {Q : Int → fb_S → Prop} (v1 : Int) (h : (-2147483648 ≤ v1 ∧ v1 < 2147483648) ∧ ((-2147483648 ≤ (σ.1 160) ∧ (σ.1 160) < 2147483648) ∧ (((σ.1 160) ≤ v1 → ((σ.1 160) ≤ 0 → Q 0 σ) ∧ (¬ (σ.1 160) ≤ 0 → Q 1 σ)) ∧ (¬ (σ.1 160) ≤ v1 → (0 ≤ v1 ∧ v1 < 6) ∧ ((-2147483648 ≤ (σ.2 41 v1) ∧ (σ.2 41 v1) < 2147483648) ∧ ((¬ (σ.2 41 v1) = 0 → (0 ≤ (((24 * v1) + (σ.2 41 v1)) - 1) ∧ (((24 * v1) + (σ.2 41 v1)) - 1) < 144) ∧ ((-2147483648 ≤ (σ.2 43 (((24 * v1) + (σ.2 41 v1)) - 1)) ∧ (σ.2 43 (((24 * v1) + (σ.2 41 v1)) - 1)) < 2147483648) ∧ (((σ.2 43 (((24 * v1) + (σ.2 41 v1)) - 1)) = 10 → fb_V E fb_Mo_ended 2 [.inr 5, .inl (v1 + 1), .inr 999] [] σ Q) ∧ (¬ (σ.2 43 (((24 * v1) + (σ.2 41 v1)) - 1)) = 10 → ((σ.2 43 (((24 * v1) + (σ.2 41 v1)) - 1)) = 14 → fb_V E fb_Mo_ended 2 [.inr 5, .inl (v1 + 1), .inr 999] [] σ Q) ∧ (¬ (σ.2 43 (((24 * v1) + (σ.2 41 v1)) - 1)) = 14 → Q 0 σ))))) ∧ ((σ.2 41 v1) = 0 → Q 0 σ))))))) : fb_V E fb_Mo_ended 2 [.inr 5, .inl v1, .inr 999] [] σ Q := by
  refine fb_iload_n dd_Mo_ended_2 rfl (fb_aload_n dd_Mo_ended_3 rfl (by decide) (fb_getI (x := σ.1 160) 5 0 dd_Mo_ended_4 rfl rfl rfl (by decide) lk_Mo_72 rfl ?_))
  obtain ⟨q1, h⟩ := h
  obtain ⟨q2, h⟩ := h
  refine fb_icmp_ge (tgt := 60) dd_Mo_ended_7 rfl q1 q2 (fun hc => ?_) (fun hc => ?_)
  · replace h := h.1 hc
    refine fb_aload_n dd_Mo_ended_60 rfl (by decide) (fb_getI (x := σ.1 160) 5 0 dd_Mo_ended_61 rfl rfl rfl (by decide) lk_Mo_72 rfl ?_)
    refine fb_if_le (tgt := 71) dd_Mo_ended_64 rfl q2 (fun hc => ?_) (fun hc => ?_)
    · replace h := h.1 hc
      refine fb_iconst dd_Mo_ended_71 ?_
      exact fb_zret dd_Mo_ended_72 rfl (by decide) h
    · replace h := h.2 hc
      refine fb_iconst dd_Mo_ended_67 (fb_goto (tgt := 72) dd_Mo_ended_68 rfl ?_)
      exact fb_zret dd_Mo_ended_72 rfl (by decide) h
  · replace h := h.2 hc
    refine fb_aload_n dd_Mo_ended_10 rfl (by decide) (fb_getR 5 3 dd_Mo_ended_11 rfl rfl rfl (by decide) lk_Mo_13 (fb_iload_n dd_Mo_ended_14 rfl ?_))
    obtain ⟨q3, h⟩ := h
    refine fb_ild (x := σ.2 41 v1) dd_Mo_ended_15 rfl q3 rfl ?_
    obtain ⟨q4, h⟩ := h
    refine fb_if_ne (tgt := 21) dd_Mo_ended_16 rfl q4 (fun hc => ?_) (fun hc => ?_)
    · replace h := h.1 hc
      refine fb_aload_n dd_Mo_ended_21 rfl (by decide) (fb_getR 5 5 dd_Mo_ended_22 rfl rfl rfl (by decide) lk_Mo_19 (fb_bipush dd_Mo_ended_25 (by decide) (fb_iload_n dd_Mo_ended_27 rfl (fb_imul dd_Mo_ended_28 (fb_aload_n dd_Mo_ended_29 rfl (by decide) (fb_getR 5 3 dd_Mo_ended_30 rfl rfl rfl (by decide) lk_Mo_13 (fb_iload_n dd_Mo_ended_33 rfl ?_)))))))
      refine fb_ild (x := σ.2 41 v1) dd_Mo_ended_34 rfl q3 rfl (fb_iadd dd_Mo_ended_35 (fb_iconst dd_Mo_ended_36 (fb_isub dd_Mo_ended_37 ?_)))
      obtain ⟨q5, h⟩ := h
      refine fb_ild (x := σ.2 43 (((24 * v1) + (σ.2 41 v1)) - 1)) dd_Mo_ended_38 rfl q5 rfl (fb_istore_n dd_Mo_ended_39 rfl rfl rfl (fb_iload_n dd_Mo_ended_40 rfl (fb_bipush dd_Mo_ended_41 (by decide) ?_)))
      obtain ⟨q6, h⟩ := h
      refine fb_icmp_eq (tgt := 54) dd_Mo_ended_43 rfl q6 (by decide) (fun hc => ?_) (fun hc => ?_)
      · replace h := h.1 hc
        refine fb_iinc dd_Mo_ended_54 rfl rfl rfl (fb_goto (tgt := 2) dd_Mo_ended_57 rfl ?_)
        exact fb_drop (fb_sub_k (fb_sub_k (fb_sub_d fb_sub_0))) h
      · replace h := h.2 hc
        refine fb_iload_n dd_Mo_ended_46 rfl (fb_bipush dd_Mo_ended_47 (by decide) ?_)
        refine fb_icmp_eq (tgt := 54) dd_Mo_ended_49 rfl q6 (by decide) (fun hc => ?_) (fun hc => ?_)
        · replace h := h.1 hc
          refine fb_iinc dd_Mo_ended_54 rfl rfl rfl (fb_goto (tgt := 2) dd_Mo_ended_57 rfl ?_)
          exact fb_drop (fb_sub_k (fb_sub_k (fb_sub_d fb_sub_0))) h
        · replace h := h.2 hc
          refine fb_iconst dd_Mo_ended_52 ?_
          exact fb_zret dd_Mo_ended_53 rfl (by decide) h
    · replace h := h.2 hc
      refine fb_iconst dd_Mo_ended_19 ?_
      exact fb_zret dd_Mo_ended_20 rfl (by decide) h

theorem Mo_aimed_b0 {E : fb_E} {σ : fb_S} {Q : Int → fb_S → Prop} (h : fb_V E fb_Mo_aimed 2 [.inr 5, .inl 0, .inr 999] [] σ Q) : fb_V E fb_Mo_aimed 0 [.inr 5, .inr 999, .inr 999] [] σ Q := by
  refine fb_iconst dd_Mo_aimed_0 (fb_istore_n dd_Mo_aimed_1 rfl rfl rfl ?_)
  exact h
theorem Mo_aimed_b2 {E : fb_E} {σ : fb_S} {Q : Int → fb_S → Prop} (v1 : Int) (h : (-2147483648 ≤ v1 ∧ v1 < 2147483648) ∧ ((144 ≤ v1 → fb_V E fb_Mo_aimed 24 [.inr 5, .inl 0, .inr 999] [] σ Q) ∧ (¬ 144 ≤ v1 → (0 ≤ v1 ∧ v1 < 144) ∧ (fb_V E fb_Mo_aimed 2 [.inr 5, .inl (v1 + 1), .inr 999] [] (fb_sm σ 51 v1 0) Q)))) : fb_V E fb_Mo_aimed 2 [.inr 5, .inl v1, .inr 999] [] σ Q := by
  refine fb_iload_n dd_Mo_aimed_2 rfl (fb_sipush dd_Mo_aimed_3 (by decide) ?_)
  obtain ⟨q1, h⟩ := h
  refine fb_icmp_ge (tgt := 22) dd_Mo_aimed_6 rfl q1 (by decide) (fun hc => ?_) (fun hc => ?_)
  · replace h := h.1 hc
    refine fb_iconst dd_Mo_aimed_22 (fb_istore_n dd_Mo_aimed_23 rfl rfl rfl ?_)
    exact h
  · replace h := h.2 hc
    refine fb_aload_n dd_Mo_aimed_9 rfl (by decide) (fb_getR 5 17 dd_Mo_aimed_10 rfl rfl rfl (by decide) lk_Mo_44 (fb_iload_n dd_Mo_aimed_13 rfl (fb_iconst dd_Mo_aimed_14 ?_)))
    obtain ⟨q2, h⟩ := h
    refine fb_zst dd_Mo_aimed_15 (by decide) rfl q2 (fb_iinc dd_Mo_aimed_16 rfl rfl rfl (fb_goto (tgt := 2) dd_Mo_aimed_19 rfl ?_))
    exact h
theorem Mo_aimed_b24 {E : fb_E} {σ : fb_S} {Q : Int → fb_S → Prop} (v1 : Int) (h : (-2147483648 ≤ v1 ∧ v1 < 2147483648) ∧ ((-2147483648 ≤ (σ.1 160) ∧ (σ.1 160) < 2147483648) ∧ (((σ.1 160) ≤ v1 → Q 1 σ) ∧ (¬ (σ.1 160) ≤ v1 → fb_V E fb_Mo_aimed 37 [.inr 5, .inl v1, .inl (24 * v1)] [] σ Q)))) : fb_V E fb_Mo_aimed 24 [.inr 5, .inl v1, .inr 999] [] σ Q := by
  refine fb_iload_n dd_Mo_aimed_24 rfl (fb_aload_n dd_Mo_aimed_25 rfl (by decide) (fb_getI (x := σ.1 160) 5 0 dd_Mo_aimed_26 rfl rfl rfl (by decide) lk_Mo_72 rfl ?_))
  obtain ⟨q1, h⟩ := h
  obtain ⟨q2, h⟩ := h
  refine fb_icmp_ge (tgt := 130) dd_Mo_aimed_29 rfl q1 q2 (fun hc => ?_) (fun hc => ?_)
  · replace h := h.1 hc
    refine fb_iconst dd_Mo_aimed_130 ?_
    exact fb_zret dd_Mo_aimed_131 rfl (by decide) h
  · replace h := h.2 hc
    refine fb_bipush dd_Mo_aimed_32 (by decide) (fb_iload_n dd_Mo_aimed_34 rfl (fb_imul dd_Mo_aimed_35 (fb_istore_n dd_Mo_aimed_36 rfl rfl rfl ?_)))
    exact h
theorem Mo_aimed_b37 {E : fb_E} {σ : fb_S} {Q : Int → fb_S → Prop} (v1 v2 : Int) (h : (0 ≤ v1 ∧ v1 < 6) ∧ ((-2147483648 ≤ v2 ∧ v2 < 2147483648) ∧ ((-2147483648 ≤ ((24 * v1) + (σ.2 41 v1)) ∧ ((24 * v1) + (σ.2 41 v1)) < 2147483648) ∧ ((((24 * v1) + (σ.2 41 v1)) ≤ v2 → fb_V E fb_Mo_aimed 24 [.inr 5, .inl (v1 + 1), .inr 999] [] σ Q) ∧ (¬ ((24 * v1) + (σ.2 41 v1)) ≤ v2 → (0 ≤ v2 ∧ v2 < 144) ∧ ((-2147483648 ≤ (σ.2 43 v2) ∧ (σ.2 43 v2) < 2147483648) ∧ (((σ.2 43 v2) = 10 → fb_V E fb_Mo_goal 0 [.inr 5, .inl v2] [] σ (fun r6 s7 => (-2147483648 ≤ r6 ∧ r6 < 2147483648) ∧ ((r6 < 0 → Q 0 s7) ∧ (¬ r6 < 0 → fb_V E fb_Mo_goal 0 [.inr 5, .inl v2] [] s7 (fun r9 s10 => (-2147483648 ≤ r9 ∧ r9 < 2147483648) ∧ ((-2147483648 ≤ (s10.2 41 v1) ∧ (s10.2 41 v1) < 2147483648) ∧ ((r9 < (s10.2 41 v1) → fb_V E fb_Mo_goal 0 [.inr 5, .inl v2] [] s10 (fun r13 s14 => (0 ≤ ((24 * v1) + r13) ∧ ((24 * v1) + r13) < 144) ∧ (fb_V E fb_Mo_aimed 37 [.inr 5, .inl v1, .inl (v2 + 1)] [] (fb_sm s14 51 ((24 * v1) + r13) 1) Q))) ∧ (¬ r9 < (s10.2 41 v1) → Q 0 s10)))))))) ∧ (¬ (σ.2 43 v2) = 10 → fb_V E fb_Mo_branches 0 [.inl (σ.2 43 v2)] [] σ (fun r16 s17 => (-2147483648 ≤ r16 ∧ r16 < 2147483648) ∧ ((¬ r16 = 0 → fb_V E fb_Mo_goal 0 [.inr 5, .inl v2] [] s17 (fun r19 s20 => (-2147483648 ≤ r19 ∧ r19 < 2147483648) ∧ ((r19 < 0 → Q 0 s20) ∧ (¬ r19 < 0 → fb_V E fb_Mo_goal 0 [.inr 5, .inl v2] [] s20 (fun r22 s23 => (-2147483648 ≤ r22 ∧ r22 < 2147483648) ∧ ((-2147483648 ≤ (s23.2 41 v1) ∧ (s23.2 41 v1) < 2147483648) ∧ ((r22 < (s23.2 41 v1) → fb_V E fb_Mo_goal 0 [.inr 5, .inl v2] [] s23 (fun r26 s27 => (0 ≤ ((24 * v1) + r26) ∧ ((24 * v1) + r26) < 144) ∧ (fb_V E fb_Mo_aimed 37 [.inr 5, .inl v1, .inl (v2 + 1)] [] (fb_sm s27 51 ((24 * v1) + r26) 1) Q))) ∧ (¬ r22 < (s23.2 41 v1) → Q 0 s23)))))))) ∧ (r16 = 0 → fb_V E fb_Mo_aimed 37 [.inr 5, .inl v1, .inl (v2 + 1)] [] s17 Q))))))))))) : fb_V E fb_Mo_aimed 37 [.inr 5, .inl v1, .inl v2] [] σ Q := by
  refine fb_iload_n dd_Mo_aimed_37 rfl (fb_bipush dd_Mo_aimed_38 (by decide) (fb_iload_n dd_Mo_aimed_40 rfl (fb_imul dd_Mo_aimed_41 (fb_aload_n dd_Mo_aimed_42 rfl (by decide) (fb_getR 5 3 dd_Mo_aimed_43 rfl rfl rfl (by decide) lk_Mo_13 (fb_iload_n dd_Mo_aimed_46 rfl ?_))))))
  obtain ⟨q1, h⟩ := h
  refine fb_ild (x := σ.2 41 v1) dd_Mo_aimed_47 rfl q1 rfl (fb_iadd dd_Mo_aimed_48 ?_)
  obtain ⟨q2, h⟩ := h
  obtain ⟨q3, h⟩ := h
  refine fb_icmp_ge (tgt := 124) dd_Mo_aimed_49 rfl q2 q3 (fun hc => ?_) (fun hc => ?_)
  · replace h := h.1 hc
    refine fb_iinc dd_Mo_aimed_124 rfl rfl rfl (fb_goto (tgt := 24) dd_Mo_aimed_127 rfl ?_)
    exact fb_drop (fb_sub_k (fb_sub_k (fb_sub_d fb_sub_0))) h
  · replace h := h.2 hc
    refine fb_aload_n dd_Mo_aimed_52 rfl (by decide) (fb_getR 5 5 dd_Mo_aimed_53 rfl rfl rfl (by decide) lk_Mo_19 (fb_iload_n dd_Mo_aimed_56 rfl ?_))
    obtain ⟨q4, h⟩ := h
    refine fb_ild (x := σ.2 43 v2) dd_Mo_aimed_57 rfl q4 rfl (fb_bipush dd_Mo_aimed_58 (by decide) ?_)
    obtain ⟨q5, h⟩ := h
    refine fb_icmp_eq (tgt := 78) dd_Mo_aimed_60 rfl q5 (by decide) (fun hc => ?_) (fun hc => ?_)
    · replace h := h.1 hc
      refine fb_aload_n dd_Mo_aimed_78 rfl (by decide) (fb_iload_n dd_Mo_aimed_79 rfl ?_)
      refine fb_callVi (z := fb_Mo_goal) (k := 5) (vs := [.inl v2]) (st := []) dd_Mo_aimed_80 vw_Mo_98 (by decide) ⟨_, rfl⟩ rfl rfl (np := 1) (by decide +kernel) rfl rfl rfl rfl rfl (fb_mono h (fun r6 s7 h => ?_))
      obtain ⟨q8, h⟩ := h
      refine fb_if_lt (tgt := 100) dd_Mo_aimed_83 rfl q8 (fun hc => ?_) (fun hc => ?_)
      · replace h := h.1 hc
        refine fb_iconst dd_Mo_aimed_100 ?_
        exact fb_zret dd_Mo_aimed_101 rfl (by decide) h
      · replace h := h.2 hc
        refine fb_aload_n dd_Mo_aimed_86 rfl (by decide) (fb_iload_n dd_Mo_aimed_87 rfl ?_)
        refine fb_callVi (z := fb_Mo_goal) (k := 5) (vs := [.inl v2]) (st := []) dd_Mo_aimed_88 vw_Mo_98 (by decide) ⟨_, rfl⟩ rfl rfl (np := 1) (by decide +kernel) rfl rfl rfl rfl rfl (fb_mono h (fun r9 s10 h => ?_))
        refine fb_aload_n dd_Mo_aimed_91 rfl (by decide) (fb_getR 5 3 dd_Mo_aimed_92 rfl rfl rfl (by decide) lk_Mo_13 (fb_iload_n dd_Mo_aimed_95 rfl (fb_ild (x := s10.2 41 v1) dd_Mo_aimed_96 rfl q1 rfl ?_)))
        obtain ⟨q11, h⟩ := h
        obtain ⟨q12, h⟩ := h
        refine fb_icmp_lt (tgt := 102) dd_Mo_aimed_97 rfl q11 q12 (fun hc => ?_) (fun hc => ?_)
        · replace h := h.1 hc
          refine fb_aload_n dd_Mo_aimed_102 rfl (by decide) (fb_getR 5 17 dd_Mo_aimed_103 rfl rfl rfl (by decide) lk_Mo_44 (fb_bipush dd_Mo_aimed_106 (by decide) (fb_iload_n dd_Mo_aimed_108 rfl (fb_imul dd_Mo_aimed_109 (fb_aload_n dd_Mo_aimed_110 rfl (by decide) (fb_iload_n dd_Mo_aimed_111 rfl ?_))))))
          refine fb_callVi (z := fb_Mo_goal) (k := 5) (vs := [.inl v2]) (st := [.inl (24 * v1), .inr 51]) dd_Mo_aimed_112 vw_Mo_98 (by decide) ⟨_, rfl⟩ rfl rfl (np := 1) (by decide +kernel) rfl rfl rfl rfl rfl (fb_mono h (fun r13 s14 h => ?_))
          refine fb_iadd dd_Mo_aimed_115 (fb_iconst dd_Mo_aimed_116 ?_)
          obtain ⟨q15, h⟩ := h
          refine fb_zst dd_Mo_aimed_117 (by decide) rfl q15 (fb_iinc dd_Mo_aimed_118 rfl rfl rfl (fb_goto (tgt := 37) dd_Mo_aimed_121 rfl ?_))
          exact h
        · replace h := h.2 hc
          refine fb_iconst dd_Mo_aimed_100 ?_
          exact fb_zret dd_Mo_aimed_101 rfl (by decide) h
    · replace h := h.2 hc
      refine fb_aload_n dd_Mo_aimed_63 rfl (by decide) (fb_getR 5 5 dd_Mo_aimed_64 rfl rfl rfl (by decide) lk_Mo_19 (fb_iload_n dd_Mo_aimed_67 rfl (fb_ild (x := σ.2 43 v2) dd_Mo_aimed_68 rfl q4 rfl ?_)))
      refine fb_callSi (z := fb_Mo_branches) (vs := [.inl (σ.2 43 v2)]) (st := []) dd_Mo_aimed_69 sw_Mo_95 (by decide) ⟨_, rfl⟩ (np := 1) (by decide +kernel) rfl rfl rfl rfl rfl (fb_mono h (fun r16 s17 h => ?_))
      obtain ⟨q18, h⟩ := h
      refine fb_if_ne (tgt := 78) dd_Mo_aimed_72 rfl q18 (fun hc => ?_) (fun hc => ?_)
      · replace h := h.1 hc
        refine fb_aload_n dd_Mo_aimed_78 rfl (by decide) (fb_iload_n dd_Mo_aimed_79 rfl ?_)
        refine fb_callVi (z := fb_Mo_goal) (k := 5) (vs := [.inl v2]) (st := []) dd_Mo_aimed_80 vw_Mo_98 (by decide) ⟨_, rfl⟩ rfl rfl (np := 1) (by decide +kernel) rfl rfl rfl rfl rfl (fb_mono h (fun r19 s20 h => ?_))
        obtain ⟨q21, h⟩ := h
        refine fb_if_lt (tgt := 100) dd_Mo_aimed_83 rfl q21 (fun hc => ?_) (fun hc => ?_)
        · replace h := h.1 hc
          refine fb_iconst dd_Mo_aimed_100 ?_
          exact fb_zret dd_Mo_aimed_101 rfl (by decide) h
        · replace h := h.2 hc
          refine fb_aload_n dd_Mo_aimed_86 rfl (by decide) (fb_iload_n dd_Mo_aimed_87 rfl ?_)
          refine fb_callVi (z := fb_Mo_goal) (k := 5) (vs := [.inl v2]) (st := []) dd_Mo_aimed_88 vw_Mo_98 (by decide) ⟨_, rfl⟩ rfl rfl (np := 1) (by decide +kernel) rfl rfl rfl rfl rfl (fb_mono h (fun r22 s23 h => ?_))
          refine fb_aload_n dd_Mo_aimed_91 rfl (by decide) (fb_getR 5 3 dd_Mo_aimed_92 rfl rfl rfl (by decide) lk_Mo_13 (fb_iload_n dd_Mo_aimed_95 rfl (fb_ild (x := s23.2 41 v1) dd_Mo_aimed_96 rfl q1 rfl ?_)))
          obtain ⟨q24, h⟩ := h
          obtain ⟨q25, h⟩ := h
          refine fb_icmp_lt (tgt := 102) dd_Mo_aimed_97 rfl q24 q25 (fun hc => ?_) (fun hc => ?_)
          · replace h := h.1 hc
            refine fb_aload_n dd_Mo_aimed_102 rfl (by decide) (fb_getR 5 17 dd_Mo_aimed_103 rfl rfl rfl (by decide) lk_Mo_44 (fb_bipush dd_Mo_aimed_106 (by decide) (fb_iload_n dd_Mo_aimed_108 rfl (fb_imul dd_Mo_aimed_109 (fb_aload_n dd_Mo_aimed_110 rfl (by decide) (fb_iload_n dd_Mo_aimed_111 rfl ?_))))))
            refine fb_callVi (z := fb_Mo_goal) (k := 5) (vs := [.inl v2]) (st := [.inl (24 * v1), .inr 51]) dd_Mo_aimed_112 vw_Mo_98 (by decide) ⟨_, rfl⟩ rfl rfl (np := 1) (by decide +kernel) rfl rfl rfl rfl rfl (fb_mono h (fun r26 s27 h => ?_))
            refine fb_iadd dd_Mo_aimed_115 (fb_iconst dd_Mo_aimed_116 ?_)
            obtain ⟨q28, h⟩ := h
            refine fb_zst dd_Mo_aimed_117 (by decide) rfl q28 (fb_iinc dd_Mo_aimed_118 rfl rfl rfl (fb_goto (tgt := 37) dd_Mo_aimed_121 rfl ?_))
            exact h
          · replace h := h.2 hc
            refine fb_iconst dd_Mo_aimed_100 ?_
            exact fb_zret dd_Mo_aimed_101 rfl (by decide) h
      · replace h := h.2 hc
        refine fb_goto (tgt := 118) dd_Mo_aimed_75 rfl (fb_iinc dd_Mo_aimed_118 rfl rfl rfl (fb_goto (tgt := 37) dd_Mo_aimed_121 rfl ?_))
        exact h

theorem Mo_called_b0 {E : fb_E} {σ : fb_S} {Q : Int → fb_S → Prop} (h : fb_V E fb_Mo_called 2 [.inr 5, .inl 0, .inr 999] [] σ Q) : fb_V E fb_Mo_called 0 [.inr 5, .inr 999, .inr 999] [] σ Q := by
  refine fb_iconst dd_Mo_called_0 (fb_istore_n dd_Mo_called_1 rfl rfl rfl ?_)
  exact h
theorem Mo_called_b2 {E : fb_E} {σ : fb_S} {Q : Int → fb_S → Prop} (v1 : Int) (h : (-2147483648 ≤ v1 ∧ v1 < 2147483648) ∧ ((36 ≤ v1 → fb_V E fb_Mo_called 23 [.inr 5, .inl 0, .inr 999] [] σ Q) ∧ (¬ 36 ≤ v1 → (0 ≤ v1 ∧ v1 < 36) ∧ (fb_V E fb_Mo_called 2 [.inr 5, .inl (v1 + 1), .inr 999] [] (fb_sm σ 48 v1 0) Q)))) : fb_V E fb_Mo_called 2 [.inr 5, .inl v1, .inr 999] [] σ Q := by
  refine fb_iload_n dd_Mo_called_2 rfl (fb_bipush dd_Mo_called_3 (by decide) ?_)
  obtain ⟨q1, h⟩ := h
  refine fb_icmp_ge (tgt := 21) dd_Mo_called_5 rfl q1 (by decide) (fun hc => ?_) (fun hc => ?_)
  · replace h := h.1 hc
    refine fb_iconst dd_Mo_called_21 (fb_istore_n dd_Mo_called_22 rfl rfl rfl ?_)
    exact h
  · replace h := h.2 hc
    refine fb_aload_n dd_Mo_called_8 rfl (by decide) (fb_getR 5 11 dd_Mo_called_9 rfl rfl rfl (by decide) lk_Mo_34 (fb_iload_n dd_Mo_called_12 rfl (fb_iconst dd_Mo_called_13 ?_)))
    obtain ⟨q2, h⟩ := h
    refine fb_zst dd_Mo_called_14 (by decide) rfl q2 (fb_iinc dd_Mo_called_15 rfl rfl rfl (fb_goto (tgt := 2) dd_Mo_called_18 rfl ?_))
    exact h
theorem Mo_called_b23 {E : fb_E} {σ : fb_S} {Q : Int → fb_S → Prop} (v1 : Int) (h : (-2147483648 ≤ v1 ∧ v1 < 2147483648) ∧ ((-2147483648 ≤ (σ.1 160) ∧ (σ.1 160) < 2147483648) ∧ (((σ.1 160) ≤ v1 → Q 1 σ) ∧ (¬ (σ.1 160) ≤ v1 → fb_V E fb_Mo_called 36 [.inr 5, .inl v1, .inl (24 * v1)] [] σ Q)))) : fb_V E fb_Mo_called 23 [.inr 5, .inl v1, .inr 999] [] σ Q := by
  refine fb_iload_n dd_Mo_called_23 rfl (fb_aload_n dd_Mo_called_24 rfl (by decide) (fb_getI (x := σ.1 160) 5 0 dd_Mo_called_25 rfl rfl rfl (by decide) lk_Mo_72 rfl ?_))
  obtain ⟨q1, h⟩ := h
  obtain ⟨q2, h⟩ := h
  refine fb_icmp_ge (tgt := 118) dd_Mo_called_28 rfl q1 q2 (fun hc => ?_) (fun hc => ?_)
  · replace h := h.1 hc
    refine fb_iconst dd_Mo_called_118 ?_
    exact fb_zret dd_Mo_called_119 rfl (by decide) h
  · replace h := h.2 hc
    refine fb_bipush dd_Mo_called_31 (by decide) (fb_iload_n dd_Mo_called_33 rfl (fb_imul dd_Mo_called_34 (fb_istore_n dd_Mo_called_35 rfl rfl rfl ?_)))
    exact h
theorem Mo_called_b36 {E : fb_E} {σ : fb_S} {Q : Int → fb_S → Prop} (v1 v2 : Int) (h : (0 ≤ v1 ∧ v1 < 6) ∧ ((-2147483648 ≤ v2 ∧ v2 < 2147483648) ∧ ((-2147483648 ≤ ((24 * v1) + (σ.2 41 v1)) ∧ ((24 * v1) + (σ.2 41 v1)) < 2147483648) ∧ ((((24 * v1) + (σ.2 41 v1)) ≤ v2 → fb_V E fb_Mo_called 23 [.inr 5, .inl (v1 + 1), .inr 999] [] σ Q) ∧ (¬ ((24 * v1) + (σ.2 41 v1)) ≤ v2 → (0 ≤ v2 ∧ v2 < 144) ∧ ((-2147483648 ≤ (σ.2 43 v2) ∧ (σ.2 43 v2) < 2147483648) ∧ (((σ.2 43 v2) = 13 → (-2147483648 ≤ (σ.2 44 v2) ∧ (σ.2 44 v2) < 2147483648) ∧ (((σ.2 44 v2) < 0 → Q 0 σ) ∧ (¬ (σ.2 44 v2) < 0 → (-2147483648 ≤ (σ.1 160) ∧ (σ.1 160) < 2147483648) ∧ (((σ.2 44 v2) < (σ.1 160) → (0 ≤ ((6 * v1) + (σ.2 44 v2)) ∧ ((6 * v1) + (σ.2 44 v2)) < 36) ∧ (fb_V E fb_Mo_called 36 [.inr 5, .inl v1, .inl (v2 + 1)] [] (fb_sm σ 48 ((6 * v1) + (σ.2 44 v2)) 1) Q)) ∧ (¬ (σ.2 44 v2) < (σ.1 160) → Q 0 σ))))) ∧ (¬ (σ.2 43 v2) = 13 → fb_V E fb_Mo_called 36 [.inr 5, .inl v1, .inl (v2 + 1)] [] σ Q)))))))) : fb_V E fb_Mo_called 36 [.inr 5, .inl v1, .inl v2] [] σ Q := by
  refine fb_iload_n dd_Mo_called_36 rfl (fb_bipush dd_Mo_called_37 (by decide) (fb_iload_n dd_Mo_called_39 rfl (fb_imul dd_Mo_called_40 (fb_aload_n dd_Mo_called_41 rfl (by decide) (fb_getR 5 3 dd_Mo_called_42 rfl rfl rfl (by decide) lk_Mo_13 (fb_iload_n dd_Mo_called_45 rfl ?_))))))
  obtain ⟨q1, h⟩ := h
  refine fb_ild (x := σ.2 41 v1) dd_Mo_called_46 rfl q1 rfl (fb_iadd dd_Mo_called_47 ?_)
  obtain ⟨q2, h⟩ := h
  obtain ⟨q3, h⟩ := h
  refine fb_icmp_ge (tgt := 112) dd_Mo_called_48 rfl q2 q3 (fun hc => ?_) (fun hc => ?_)
  · replace h := h.1 hc
    refine fb_iinc dd_Mo_called_112 rfl rfl rfl (fb_goto (tgt := 23) dd_Mo_called_115 rfl ?_)
    exact fb_drop (fb_sub_k (fb_sub_k (fb_sub_d fb_sub_0))) h
  · replace h := h.2 hc
    refine fb_aload_n dd_Mo_called_51 rfl (by decide) (fb_getR 5 5 dd_Mo_called_52 rfl rfl rfl (by decide) lk_Mo_19 (fb_iload_n dd_Mo_called_55 rfl ?_))
    obtain ⟨q4, h⟩ := h
    refine fb_ild (x := σ.2 43 v2) dd_Mo_called_56 rfl q4 rfl (fb_bipush dd_Mo_called_57 (by decide) ?_)
    obtain ⟨q5, h⟩ := h
    refine fb_icmp_eq (tgt := 65) dd_Mo_called_59 rfl q5 (by decide) (fun hc => ?_) (fun hc => ?_)
    · replace h := h.1 hc
      refine fb_aload_n dd_Mo_called_65 rfl (by decide) (fb_getR 5 6 dd_Mo_called_66 rfl rfl rfl (by decide) lk_Mo_22 (fb_iload_n dd_Mo_called_69 rfl (fb_ild (x := σ.2 44 v2) dd_Mo_called_70 rfl q4 rfl ?_)))
      obtain ⟨q6, h⟩ := h
      refine fb_if_lt (tgt := 87) dd_Mo_called_71 rfl q6 (fun hc => ?_) (fun hc => ?_)
      · replace h := h.1 hc
        refine fb_iconst dd_Mo_called_87 ?_
        exact fb_zret dd_Mo_called_88 rfl (by decide) h
      · replace h := h.2 hc
        refine fb_aload_n dd_Mo_called_74 rfl (by decide) (fb_getR 5 6 dd_Mo_called_75 rfl rfl rfl (by decide) lk_Mo_22 (fb_iload_n dd_Mo_called_78 rfl (fb_ild (x := σ.2 44 v2) dd_Mo_called_79 rfl q4 rfl (fb_aload_n dd_Mo_called_80 rfl (by decide) (fb_getI (x := σ.1 160) 5 0 dd_Mo_called_81 rfl rfl rfl (by decide) lk_Mo_72 rfl ?_)))))
        obtain ⟨q7, h⟩ := h
        refine fb_icmp_lt (tgt := 89) dd_Mo_called_84 rfl q6 q7 (fun hc => ?_) (fun hc => ?_)
        · replace h := h.1 hc
          refine fb_aload_n dd_Mo_called_89 rfl (by decide) (fb_getR 5 11 dd_Mo_called_90 rfl rfl rfl (by decide) lk_Mo_34 (fb_bipush dd_Mo_called_93 (by decide) (fb_iload_n dd_Mo_called_95 rfl (fb_imul dd_Mo_called_96 (fb_aload_n dd_Mo_called_97 rfl (by decide) (fb_getR 5 6 dd_Mo_called_98 rfl rfl rfl (by decide) lk_Mo_22 (fb_iload_n dd_Mo_called_101 rfl ?_)))))))
          refine fb_ild (x := σ.2 44 v2) dd_Mo_called_102 rfl q4 rfl (fb_iadd dd_Mo_called_103 (fb_iconst dd_Mo_called_104 ?_))
          obtain ⟨q8, h⟩ := h
          refine fb_zst dd_Mo_called_105 (by decide) rfl q8 (fb_iinc dd_Mo_called_106 rfl rfl rfl (fb_goto (tgt := 36) dd_Mo_called_109 rfl ?_))
          exact h
        · replace h := h.2 hc
          refine fb_iconst dd_Mo_called_87 ?_
          exact fb_zret dd_Mo_called_88 rfl (by decide) h
    · replace h := h.2 hc
      refine fb_goto (tgt := 106) dd_Mo_called_62 rfl (fb_iinc dd_Mo_called_106 rfl rfl rfl (fb_goto (tgt := 36) dd_Mo_called_109 rfl ?_))
      exact h

theorem Mo_rings_b0 {E : fb_E} {σ : fb_S} {Q : Int → fb_S → Prop} (h : fb_V E fb_Mo_rings 4 [.inr 5, .inl 0, .inl 0, .inr 999, .inr 999, .inr 999, .inr 999, .inr 999] [] σ Q) : fb_V E fb_Mo_rings 0 [.inr 5, .inr 999, .inr 999, .inr 999, .inr 999, .inr 999, .inr 999, .inr 999] [] σ Q := by
  refine fb_iconst dd_Mo_rings_0 (fb_istore_n dd_Mo_rings_1 rfl rfl rfl (fb_iconst dd_Mo_rings_2 (fb_istore_n dd_Mo_rings_3 rfl rfl rfl ?_)))
  exact h
theorem Mo_rings_b4 {E : fb_E} {σ : fb_S} {Q : Int → fb_S → Prop} (v1 v2 : Int) (h : (-2147483648 ≤ v2 ∧ v2 < 2147483648) ∧ ((6 ≤ v2 → (v1 = 0 ∨ v1 = 1) ∧ (Q v1 σ)) ∧ (¬ 6 ≤ v2 → (0 ≤ v2 ∧ v2 < 31) ∧ (fb_V E fb_Mo_rings 20 [.inr 5, .inl v1, .inl v2, .inl ((1 : Int) * 2 ^ (v2 : Int).toNat), .inl 0, .inl 0, .inr 999, .inr 999] [] σ Q)))) : fb_V E fb_Mo_rings 4 [.inr 5, .inl v1, .inl v2, .inr 999, .inr 999, .inr 999, .inr 999, .inr 999] [] σ Q := by
  refine fb_iload_n dd_Mo_rings_4 rfl (fb_bipush dd_Mo_rings_5 (by decide) ?_)
  obtain ⟨q1, h⟩ := h
  refine fb_icmp_ge (tgt := 125) dd_Mo_rings_7 rfl q1 (by decide) (fun hc => ?_) (fun hc => ?_)
  · replace h := h.1 hc
    refine fb_iload_n dd_Mo_rings_125 rfl ?_
    obtain ⟨q2, h⟩ := h
    exact fb_zret dd_Mo_rings_126 rfl q2 h
  · replace h := h.2 hc
    refine fb_iconst dd_Mo_rings_10 (fb_iload_n dd_Mo_rings_11 rfl ?_)
    obtain ⟨q3, h⟩ := h
    refine fb_ishl dd_Mo_rings_12 q3 (fb_istore_n dd_Mo_rings_13 rfl rfl rfl (fb_iconst dd_Mo_rings_14 (fb_istore dd_Mo_rings_15 rfl rfl rfl (fb_iconst dd_Mo_rings_17 (fb_istore dd_Mo_rings_18 rfl rfl rfl ?_)))))
    exact h
theorem Mo_rings_b20 {E : fb_E} {σ : fb_S} {Q : Int → fb_S → Prop} (v1 v2 v3 v4 v5 : Int) (h : (-2147483648 ≤ v5 ∧ v5 < 2147483648) ∧ ((7 ≤ v5 → (-2147483648 ≤ v1 ∧ v1 < 2147483648) ∧ ((¬ v1 = 0 → fb_V E fb_Mo_rings 4 [.inr 5, .inl 1, .inl (v2 + 1), .inr 999, .inr 999, .inr 999, .inr 999, .inr 999] [] σ Q) ∧ (v1 = 0 → (-2147483648 ≤ v4 ∧ v4 < 2147483648) ∧ ((0 ≤ v2 ∧ v2 < 31) ∧ ((-2147483648 ≤ ((v4 / 2 ^ (v2 : Int).toNat) % 2) ∧ ((v4 / 2 ^ (v2 : Int).toNat) % 2) < 2147483648) ∧ ((¬ ((v4 / 2 ^ (v2 : Int).toNat) % 2) = 1 → fb_V E fb_Mo_rings 4 [.inr 5, .inl 0, .inl (v2 + 1), .inr 999, .inr 999, .inr 999, .inr 999, .inr 999] [] σ Q) ∧ (((v4 / 2 ^ (v2 : Int).toNat) % 2) = 1 → fb_V E fb_Mo_rings 4 [.inr 5, .inl 1, .inl (v2 + 1), .inr 999, .inr 999, .inr 999, .inr 999, .inr 999] [] σ Q))))))) ∧ (¬ 7 ≤ v5 → fb_V E fb_Mo_rings 33 [.inr 5, .inl v1, .inl v2, .inl v3, .inl v4, .inl v5, .inl 0, .inl 0] [] σ Q))) : fb_V E fb_Mo_rings 20 [.inr 5, .inl v1, .inl v2, .inl v3, .inl v4, .inl v5, .inr 999, .inr 999] [] σ Q := by
  refine fb_iload dd_Mo_rings_20 rfl (fb_bipush dd_Mo_rings_22 (by decide) ?_)
  obtain ⟨q1, h⟩ := h
  refine fb_icmp_ge (tgt := 99) dd_Mo_rings_24 rfl q1 (by decide) (fun hc => ?_) (fun hc => ?_)
  · replace h := h.1 hc
    refine fb_iload_n dd_Mo_rings_99 rfl ?_
    obtain ⟨q2, h⟩ := h
    refine fb_if_ne (tgt := 113) dd_Mo_rings_100 rfl q2 (fun hc => ?_) (fun hc => ?_)
    · replace h := h.1 hc
      refine fb_iconst dd_Mo_rings_113 (fb_goto (tgt := 118) dd_Mo_rings_114 rfl (fb_istore_n dd_Mo_rings_118 rfl rfl rfl (fb_iinc dd_Mo_rings_119 rfl rfl rfl (fb_goto (tgt := 4) dd_Mo_rings_122 rfl ?_))))
      exact fb_drop (fb_sub_k (fb_sub_k (fb_sub_k (fb_sub_d (fb_sub_d (fb_sub_d (fb_sub_k (fb_sub_k fb_sub_0)))))))) h
    · replace h := h.2 hc
      refine fb_iload dd_Mo_rings_103 rfl (fb_iload_n dd_Mo_rings_105 rfl ?_)
      obtain ⟨q3, h⟩ := h
      obtain ⟨q4, h⟩ := h
      refine fb_ishr dd_Mo_rings_106 q3 q4 (fb_iconst dd_Mo_rings_107 (fb_iandM 1 (p := 2) (by decide) (by decide) (by decide) dd_Mo_rings_108 (fb_iconst dd_Mo_rings_109 ?_)))
      obtain ⟨q5, h⟩ := h
      refine fb_icmp_ne (tgt := 117) dd_Mo_rings_110 rfl q5 (by decide) (fun hc => ?_) (fun hc => ?_)
      · replace h := h.1 hc
        refine fb_iconst dd_Mo_rings_117 (fb_istore_n dd_Mo_rings_118 rfl rfl rfl (fb_iinc dd_Mo_rings_119 rfl rfl rfl (fb_goto (tgt := 4) dd_Mo_rings_122 rfl ?_)))
        exact fb_drop (fb_sub_k (fb_sub_k (fb_sub_k (fb_sub_d (fb_sub_d (fb_sub_d (fb_sub_k (fb_sub_k fb_sub_0)))))))) h
      · replace h := h.2 hc
        refine fb_iconst dd_Mo_rings_113 (fb_goto (tgt := 118) dd_Mo_rings_114 rfl (fb_istore_n dd_Mo_rings_118 rfl rfl rfl (fb_iinc dd_Mo_rings_119 rfl rfl rfl (fb_goto (tgt := 4) dd_Mo_rings_122 rfl ?_))))
        exact fb_drop (fb_sub_k (fb_sub_k (fb_sub_k (fb_sub_d (fb_sub_d (fb_sub_d (fb_sub_k (fb_sub_k fb_sub_0)))))))) h
  · replace h := h.2 hc
    refine fb_iconst dd_Mo_rings_27 (fb_istore dd_Mo_rings_28 rfl rfl rfl (fb_iconst dd_Mo_rings_30 (fb_istore dd_Mo_rings_31 rfl rfl rfl ?_)))
    exact h
theorem Mo_rings_b33 {E : fb_E} {σ : fb_S} {Q : Int → fb_S → Prop} (v1 v2 v3 v4 v5 v6 v7 : Int) (h : (-2147483648 ≤ v7 ∧ v7 < 2147483648) ∧ ((36 ≤ v7 → (0 ≤ v4 ∧ v4 < 2147483648) ∧ ((0 ≤ v6 ∧ v6 < 2147483648) ∧ ((0 ≤ v3 ∧ v3 < 2147483648) ∧ (fb_V E fb_Mo_rings 20 [.inr 5, .inl v1, .inl v2, .inl (((v3 : Int).toNat ||| (v6 : Int).toNat : Nat) : Int), .inl (((v4 : Int).toNat ||| (v6 : Int).toNat : Nat) : Int), .inl (v5 + 1), .inr 999, .inr 999] [] σ Q)))) ∧ (¬ 36 ≤ v7 → (0 ≤ v7 ∧ v7 < 36) ∧ ((-2147483648 ≤ (σ.2 48 v7) ∧ (σ.2 48 v7) < 2147483648) ∧ (((σ.2 48 v7) = 0 → fb_V E fb_Mo_rings 33 [.inr 5, .inl v1, .inl v2, .inl v3, .inl v4, .inl v5, .inl v6, .inl (v7 + 1)] [] σ Q) ∧ (¬ (σ.2 48 v7) = 0 → (0 ≤ v7 ∧ v7 < 2147483648) ∧ ((-2147483648 ≤ v3 ∧ v3 < 2147483648) ∧ ((0 ≤ (v7 / 6) ∧ (v7 / 6) < 31) ∧ ((-2147483648 ≤ ((v3 / 2 ^ ((v7 / 6) : Int).toNat) % 2) ∧ ((v3 / 2 ^ ((v7 / 6) : Int).toNat) % 2) < 2147483648) ∧ ((¬ ((v3 / 2 ^ ((v7 / 6) : Int).toNat) % 2) = 1 → fb_V E fb_Mo_rings 33 [.inr 5, .inl v1, .inl v2, .inl v3, .inl v4, .inl v5, .inl v6, .inl (v7 + 1)] [] σ Q) ∧ (((v3 / 2 ^ ((v7 / 6) : Int).toNat) % 2) = 1 → (0 ≤ (v7 % 6) ∧ (v7 % 6) < 31) ∧ ((0 ≤ v6 ∧ v6 < 2147483648) ∧ ((0 ≤ ((1 : Int) * 2 ^ ((v7 % 6) : Int).toNat) ∧ ((1 : Int) * 2 ^ ((v7 % 6) : Int).toNat) < 2147483648) ∧ (fb_V E fb_Mo_rings 33 [.inr 5, .inl v1, .inl v2, .inl v3, .inl v4, .inl v5, .inl (((v6 : Int).toNat ||| (((1 : Int) * 2 ^ ((v7 % 6) : Int).toNat) : Int).toNat : Nat) : Int), .inl (v7 + 1)] [] σ Q)))))))))))))) : fb_V E fb_Mo_rings 33 [.inr 5, .inl v1, .inl v2, .inl v3, .inl v4, .inl v5, .inl v6, .inl v7] [] σ Q := by
  refine fb_iload dd_Mo_rings_33 rfl (fb_bipush dd_Mo_rings_35 (by decide) ?_)
  obtain ⟨q1, h⟩ := h
  refine fb_icmp_ge (tgt := 81) dd_Mo_rings_37 rfl q1 (by decide) (fun hc => ?_) (fun hc => ?_)
  · replace h := h.1 hc
    refine fb_iload dd_Mo_rings_81 rfl (fb_iload dd_Mo_rings_83 rfl ?_)
    obtain ⟨q2, h⟩ := h
    obtain ⟨q3, h⟩ := h
    refine fb_ior dd_Mo_rings_85 q2 q3 (fb_istore dd_Mo_rings_86 rfl rfl rfl (fb_iload_n dd_Mo_rings_88 rfl (fb_iload dd_Mo_rings_89 rfl ?_)))
    obtain ⟨q4, h⟩ := h
    refine fb_ior dd_Mo_rings_91 q4 q3 (fb_istore_n dd_Mo_rings_92 rfl rfl rfl (fb_iinc dd_Mo_rings_93 rfl rfl rfl (fb_goto (tgt := 20) dd_Mo_rings_96 rfl ?_)))
    exact fb_drop (fb_sub_k (fb_sub_k (fb_sub_k (fb_sub_k (fb_sub_k (fb_sub_k (fb_sub_d (fb_sub_d fb_sub_0)))))))) h
  · replace h := h.2 hc
    refine fb_aload_n dd_Mo_rings_40 rfl (by decide) (fb_getR 5 11 dd_Mo_rings_41 rfl rfl rfl (by decide) lk_Mo_34 (fb_iload dd_Mo_rings_44 rfl ?_))
    obtain ⟨q5, h⟩ := h
    refine fb_zld (x := σ.2 48 v7) dd_Mo_rings_46 rfl q5 rfl ?_
    obtain ⟨q6, h⟩ := h
    refine fb_if_eq (tgt := 75) dd_Mo_rings_47 rfl q6 (fun hc => ?_) (fun hc => ?_)
    · replace h := h.1 hc
      refine fb_iinc dd_Mo_rings_75 rfl rfl rfl (fb_goto (tgt := 33) dd_Mo_rings_78 rfl ?_)
      exact h
    · replace h := h.2 hc
      refine fb_iload_n dd_Mo_rings_50 rfl (fb_iload dd_Mo_rings_51 rfl (fb_bipush dd_Mo_rings_53 (by decide) ?_))
      obtain ⟨q7, h⟩ := h
      refine fb_idiv dd_Mo_rings_55 q7 (by decide) ?_
      obtain ⟨q8, h⟩ := h
      obtain ⟨q9, h⟩ := h
      refine fb_ishr dd_Mo_rings_56 q8 q9 (fb_iconst dd_Mo_rings_57 (fb_iandM 1 (p := 2) (by decide) (by decide) (by decide) dd_Mo_rings_58 (fb_iconst dd_Mo_rings_59 ?_)))
      obtain ⟨q10, h⟩ := h
      refine fb_icmp_ne (tgt := 75) dd_Mo_rings_60 rfl q10 (by decide) (fun hc => ?_) (fun hc => ?_)
      · replace h := h.1 hc
        refine fb_iinc dd_Mo_rings_75 rfl rfl rfl (fb_goto (tgt := 33) dd_Mo_rings_78 rfl ?_)
        exact h
      · replace h := h.2 hc
        refine fb_iload dd_Mo_rings_63 rfl (fb_iconst dd_Mo_rings_65 (fb_iload dd_Mo_rings_66 rfl (fb_bipush dd_Mo_rings_68 (by decide) (fb_irem dd_Mo_rings_70 q7 (by decide) ?_))))
        obtain ⟨q11, h⟩ := h
        refine fb_ishl dd_Mo_rings_71 q11 ?_
        obtain ⟨q12, h⟩ := h
        obtain ⟨q13, h⟩ := h
        refine fb_ior dd_Mo_rings_72 q12 q13 (fb_istore dd_Mo_rings_73 rfl rfl rfl (fb_iinc dd_Mo_rings_75 rfl rfl rfl (fb_goto (tgt := 33) dd_Mo_rings_78 rfl ?_)))
        exact h

theorem Mo_end_b0 {E : fb_E} {σ : fb_S} {Q : Int → fb_S → Prop} (v1 : Int) (h : (0 ≤ v1 ∧ v1 < 6) ∧ (fb_V E fb_Mo_end 9 [.inr 5, .inl v1, .inl (σ.2 47 v1), .inl 0] [] σ Q)) : fb_V E fb_Mo_end 0 [.inr 5, .inl v1, .inr 999, .inr 999] [] σ Q := by
  refine fb_aload_n dd_Mo_end_0 rfl (by decide) (fb_getR 5 10 dd_Mo_end_1 rfl rfl rfl (by decide) lk_Mo_31 (fb_iload_n dd_Mo_end_4 rfl ?_))
  obtain ⟨q1, h⟩ := h
  refine fb_ild (x := σ.2 47 v1) dd_Mo_end_5 rfl q1 rfl (fb_istore_n dd_Mo_end_6 rfl rfl rfl (fb_iconst dd_Mo_end_7 (fb_istore_n dd_Mo_end_8 rfl rfl rfl ?_)))
  exact h
theorem Mo_end_b9 {E : fb_E} {σ : fb_S} {Q : Int → fb_S → Prop} (v1 v2 v3 : Int) (h : (0 ≤ v1 ∧ v1 < 6) ∧ ((-2147483648 ≤ v3 ∧ v3 < 2147483648) ∧ ((-2147483648 ≤ (σ.2 40 v1) ∧ (σ.2 40 v1) < 2147483648) ∧ (((σ.2 40 v1) ≤ v3 → Q v2 σ) ∧ (¬ (σ.2 40 v1) ≤ v3 → (0 ≤ ((6 * v1) + v3) ∧ ((6 * v1) + v3) < 36) ∧ (fb_V E fb_Mo_end 9 [.inr 5, .inl v1, .inl (v2 + (σ.2 42 ((6 * v1) + v3))), .inl (v3 + 1)] [] σ Q)))))) : fb_V E fb_Mo_end 9 [.inr 5, .inl v1, .inl v2, .inl v3] [] σ Q := by
  refine fb_iload_n dd_Mo_end_9 rfl (fb_aload_n dd_Mo_end_10 rfl (by decide) (fb_getR 5 2 dd_Mo_end_11 rfl rfl rfl (by decide) lk_Mo_7 (fb_iload_n dd_Mo_end_14 rfl ?_)))
  obtain ⟨q1, h⟩ := h
  refine fb_ild (x := σ.2 40 v1) dd_Mo_end_15 rfl q1 rfl ?_
  obtain ⟨q2, h⟩ := h
  obtain ⟨q3, h⟩ := h
  refine fb_icmp_ge (tgt := 39) dd_Mo_end_16 rfl q2 q3 (fun hc => ?_) (fun hc => ?_)
  · replace h := h.1 hc
    refine fb_iload_n dd_Mo_end_39 rfl ?_
    exact fb_iret dd_Mo_end_40 rfl h
  · replace h := h.2 hc
    refine fb_iload_n dd_Mo_end_19 rfl (fb_aload_n dd_Mo_end_20 rfl (by decide) (fb_getR 5 4 dd_Mo_end_21 rfl rfl rfl (by decide) lk_Mo_16 (fb_bipush dd_Mo_end_24 (by decide) (fb_iload_n dd_Mo_end_26 rfl (fb_imul dd_Mo_end_27 (fb_iload_n dd_Mo_end_28 rfl (fb_iadd dd_Mo_end_29 ?_)))))))
    obtain ⟨q4, h⟩ := h
    refine fb_ild (x := σ.2 42 ((6 * v1) + v3)) dd_Mo_end_30 rfl q4 rfl (fb_iadd dd_Mo_end_31 (fb_istore_n dd_Mo_end_32 rfl rfl rfl (fb_iinc dd_Mo_end_33 rfl rfl rfl (fb_goto (tgt := 9) dd_Mo_end_36 rfl ?_))))
    exact h

theorem Mo_framed_b0 {E : fb_E} {σ : fb_S} {Q : Int → fb_S → Prop} (h : fb_V E fb_Mo_framed 2 [.inr 5, .inl 0, .inr 999, .inr 999, .inr 999] [] σ Q) : fb_V E fb_Mo_framed 0 [.inr 5, .inr 999, .inr 999, .inr 999, .inr 999] [] σ Q := by
  refine fb_iconst dd_Mo_framed_0 (fb_istore_n dd_Mo_framed_1 rfl rfl rfl ?_)
  exact h
theorem Mo_framed_b2 {E : fb_E} {σ : fb_S} {Q : Int → fb_S → Prop} (v1 : Int) (h : (-2147483648 ≤ v1 ∧ v1 < 2147483648) ∧ ((6 ≤ v1 → fb_V E fb_Mo_framed 23 [.inr 5, .inl 0, .inr 999, .inr 999, .inr 999] [] σ Q) ∧ (¬ 6 ≤ v1 → (0 ≤ v1 ∧ v1 < 6) ∧ (fb_V E fb_Mo_framed 2 [.inr 5, .inl (v1 + 1), .inr 999, .inr 999, .inr 999] [] (fb_sm σ 47 v1 0) Q)))) : fb_V E fb_Mo_framed 2 [.inr 5, .inl v1, .inr 999, .inr 999, .inr 999] [] σ Q := by
  refine fb_iload_n dd_Mo_framed_2 rfl (fb_bipush dd_Mo_framed_3 (by decide) ?_)
  obtain ⟨q1, h⟩ := h
  refine fb_icmp_ge (tgt := 21) dd_Mo_framed_5 rfl q1 (by decide) (fun hc => ?_) (fun hc => ?_)
  · replace h := h.1 hc
    refine fb_iconst dd_Mo_framed_21 (fb_istore_n dd_Mo_framed_22 rfl rfl rfl ?_)
    exact h
  · replace h := h.2 hc
    refine fb_aload_n dd_Mo_framed_8 rfl (by decide) (fb_getR 5 10 dd_Mo_framed_9 rfl rfl rfl (by decide) lk_Mo_31 (fb_iload_n dd_Mo_framed_12 rfl (fb_iconst dd_Mo_framed_13 ?_)))
    obtain ⟨q2, h⟩ := h
    refine fb_ist dd_Mo_framed_14 rfl q2 (fb_iinc dd_Mo_framed_15 rfl rfl rfl (fb_goto (tgt := 2) dd_Mo_framed_18 rfl ?_))
    exact h
theorem Mo_framed_b23 {E : fb_E} {σ : fb_S} {Q : Int → fb_S → Prop} (v1 : Int) (h : (-2147483648 ≤ v1 ∧ v1 < 2147483648) ∧ ((6 ≤ v1 → fb_V E fb_Mo_framed 100 [.inr 5, .inl 1, .inl 0, .inr 999, .inr 999] [] σ Q) ∧ (¬ 6 ≤ v1 → fb_V E fb_Mo_framed 31 [.inr 5, .inl v1, .inl 0, .inr 999, .inr 999] [] σ Q))) : fb_V E fb_Mo_framed 23 [.inr 5, .inl v1, .inr 999, .inr 999, .inr 999] [] σ Q := by
  refine fb_iload_n dd_Mo_framed_23 rfl (fb_bipush dd_Mo_framed_24 (by decide) ?_)
  obtain ⟨q1, h⟩ := h
  refine fb_icmp_ge (tgt := 96) dd_Mo_framed_26 rfl q1 (by decide) (fun hc => ?_) (fun hc => ?_)
  · replace h := h.1 hc
    refine fb_iconst dd_Mo_framed_96 (fb_istore_n dd_Mo_framed_97 rfl rfl rfl (fb_iconst dd_Mo_framed_98 (fb_istore_n dd_Mo_framed_99 rfl rfl rfl ?_)))
    exact h
  · replace h := h.2 hc
    refine fb_iconst dd_Mo_framed_29 (fb_istore_n dd_Mo_framed_30 rfl rfl rfl ?_)
    exact h
theorem Mo_framed_b31 {E : fb_E} {σ : fb_S} {Q : Int → fb_S → Prop} (v1 v2 : Int) (h : (-2147483648 ≤ v2 ∧ v2 < 2147483648) ∧ ((36 ≤ v2 → fb_V E fb_Mo_framed 23 [.inr 5, .inl (v1 + 1), .inr 999, .inr 999, .inr 999] [] σ Q) ∧ (¬ 36 ≤ v2 → (0 ≤ v2 ∧ v2 < 2147483648) ∧ (fb_V E fb_Mo_end 0 [.inr 5, .inl (v2 / 6), .inr 999, .inr 999] [] σ (fun r3 s4 => (0 ≤ v2 ∧ v2 < 36) ∧ ((-2147483648 ≤ (s4.2 48 v2) ∧ (s4.2 48 v2) < 2147483648) ∧ (((s4.2 48 v2) = 0 → fb_V E fb_Mo_framed 31 [.inr 5, .inl v1, .inl (v2 + 1), .inr 999, .inr 999] [] s4 Q) ∧ (¬ (s4.2 48 v2) = 0 → (-2147483648 ≤ (v2 % 6) ∧ (v2 % 6) < 2147483648) ∧ (((v2 % 6) ≤ 0 → fb_V E fb_Mo_framed 31 [.inr 5, .inl v1, .inl (v2 + 1), .inr 999, .inr 999] [] s4 Q) ∧ (¬ (v2 % 6) ≤ 0 → (0 ≤ (v2 % 6) ∧ (v2 % 6) < 6) ∧ ((-2147483648 ≤ (s4.2 47 (v2 % 6)) ∧ (s4.2 47 (v2 % 6)) < 2147483648) ∧ ((-2147483648 ≤ r3 ∧ r3 < 2147483648) ∧ ((r3 ≤ (s4.2 47 (v2 % 6)) → fb_V E fb_Mo_framed 31 [.inr 5, .inl v1, .inl (v2 + 1), .inr 999, .inr 999] [] s4 Q) ∧ (¬ r3 ≤ (s4.2 47 (v2 % 6)) → fb_V E fb_Mo_framed 31 [.inr 5, .inl v1, .inl (v2 + 1), .inr 999, .inr 999] [] (fb_sm s4 47 (v2 % 6) r3) Q)))))))))))))) : fb_V E fb_Mo_framed 31 [.inr 5, .inl v1, .inl v2, .inr 999, .inr 999] [] σ Q := by
  refine fb_iload_n dd_Mo_framed_31 rfl (fb_bipush dd_Mo_framed_32 (by decide) ?_)
  obtain ⟨q1, h⟩ := h
  refine fb_icmp_ge (tgt := 90) dd_Mo_framed_34 rfl q1 (by decide) (fun hc => ?_) (fun hc => ?_)
  · replace h := h.1 hc
    refine fb_iinc dd_Mo_framed_90 rfl rfl rfl (fb_goto (tgt := 23) dd_Mo_framed_93 rfl ?_)
    exact fb_drop (fb_sub_k (fb_sub_k (fb_sub_d (fb_sub_k (fb_sub_k fb_sub_0))))) h
  · replace h := h.2 hc
    refine fb_iload_n dd_Mo_framed_37 rfl (fb_bipush dd_Mo_framed_38 (by decide) ?_)
    obtain ⟨q2, h⟩ := h
    refine fb_irem dd_Mo_framed_40 q2 (by decide) (fb_istore_n dd_Mo_framed_41 rfl rfl rfl (fb_aload_n dd_Mo_framed_42 rfl (by decide) (fb_iload_n dd_Mo_framed_43 rfl (fb_bipush dd_Mo_framed_44 (by decide) (fb_idiv dd_Mo_framed_46 q2 (by decide) ?_)))))
    refine fb_callVi (z := fb_Mo_end) (k := 5) (vs := [.inl (v2 / 6)]) (st := []) dd_Mo_framed_47 vw_Mo_102 (by decide) ⟨_, rfl⟩ rfl rfl (np := 1) (by decide +kernel) rfl rfl rfl rfl rfl (fb_mono h (fun r3 s4 h => ?_))
    refine fb_istore dd_Mo_framed_50 rfl rfl rfl (fb_aload_n dd_Mo_framed_52 rfl (by decide) (fb_getR 5 11 dd_Mo_framed_53 rfl rfl rfl (by decide) lk_Mo_34 (fb_iload_n dd_Mo_framed_56 rfl ?_)))
    obtain ⟨q5, h⟩ := h
    refine fb_zld (x := s4.2 48 v2) dd_Mo_framed_57 rfl q5 rfl ?_
    obtain ⟨q6, h⟩ := h
    refine fb_if_eq (tgt := 84) dd_Mo_framed_58 rfl q6 (fun hc => ?_) (fun hc => ?_)
    · replace h := h.1 hc
      refine fb_iinc dd_Mo_framed_84 rfl rfl rfl (fb_goto (tgt := 31) dd_Mo_framed_87 rfl ?_)
      exact fb_drop (fb_sub_k (fb_sub_k (fb_sub_k (fb_sub_d (fb_sub_d fb_sub_0))))) h
    · replace h := h.2 hc
      refine fb_iload_n dd_Mo_framed_61 rfl ?_
      obtain ⟨q7, h⟩ := h
      refine fb_if_le (tgt := 84) dd_Mo_framed_62 rfl q7 (fun hc => ?_) (fun hc => ?_)
      · replace h := h.1 hc
        refine fb_iinc dd_Mo_framed_84 rfl rfl rfl (fb_goto (tgt := 31) dd_Mo_framed_87 rfl ?_)
        exact fb_drop (fb_sub_k (fb_sub_k (fb_sub_k (fb_sub_d (fb_sub_d fb_sub_0))))) h
      · replace h := h.2 hc
        refine fb_aload_n dd_Mo_framed_65 rfl (by decide) (fb_getR 5 10 dd_Mo_framed_66 rfl rfl rfl (by decide) lk_Mo_31 (fb_iload_n dd_Mo_framed_69 rfl ?_))
        obtain ⟨q8, h⟩ := h
        refine fb_ild (x := s4.2 47 (v2 % 6)) dd_Mo_framed_70 rfl q8 rfl (fb_iload dd_Mo_framed_71 rfl ?_)
        obtain ⟨q9, h⟩ := h
        obtain ⟨q10, h⟩ := h
        refine fb_icmp_ge (tgt := 84) dd_Mo_framed_73 rfl q9 q10 (fun hc => ?_) (fun hc => ?_)
        · replace h := h.1 hc
          refine fb_iinc dd_Mo_framed_84 rfl rfl rfl (fb_goto (tgt := 31) dd_Mo_framed_87 rfl ?_)
          exact fb_drop (fb_sub_k (fb_sub_k (fb_sub_k (fb_sub_d (fb_sub_d fb_sub_0))))) h
        · replace h := h.2 hc
          refine fb_aload_n dd_Mo_framed_76 rfl (by decide) (fb_getR 5 10 dd_Mo_framed_77 rfl rfl rfl (by decide) lk_Mo_31 (fb_iload_n dd_Mo_framed_80 rfl (fb_iload dd_Mo_framed_81 rfl (fb_ist dd_Mo_framed_83 rfl q8 (fb_iinc dd_Mo_framed_84 rfl rfl rfl (fb_goto (tgt := 31) dd_Mo_framed_87 rfl ?_))))))
          exact fb_drop (fb_sub_k (fb_sub_k (fb_sub_k (fb_sub_d (fb_sub_d fb_sub_0))))) h
theorem Mo_framed_b100 {E : fb_E} {σ : fb_S} {Q : Int → fb_S → Prop} (v1 v2 : Int) (h : (-2147483648 ≤ v2 ∧ v2 < 2147483648) ∧ ((-2147483648 ≤ (σ.1 160) ∧ (σ.1 160) < 2147483648) ∧ (((σ.1 160) ≤ v2 → (v1 = 0 ∨ v1 = 1) ∧ (Q v1 σ)) ∧ (¬ (σ.1 160) ≤ v2 → fb_V E fb_Mo_end 0 [.inr 5, .inl v2, .inr 999, .inr 999] [] σ (fun r4 s5 => (-2147483648 ≤ v1 ∧ v1 < 2147483648) ∧ ((v1 = 0 → fb_V E fb_Mo_framed 100 [.inr 5, .inl 0, .inl (v2 + 1), .inr 999, .inr 999] [] s5 Q) ∧ (¬ v1 = 0 → (-2147483648 ≤ r4 ∧ r4 < 2147483648) ∧ ((120 < r4 → fb_V E fb_Mo_framed 100 [.inr 5, .inl 0, .inl (v2 + 1), .inr 999, .inr 999] [] s5 Q) ∧ (¬ 120 < r4 → fb_V E fb_Mo_framed 100 [.inr 5, .inl 1, .inl (v2 + 1), .inr 999, .inr 999] [] s5 Q))))))))) : fb_V E fb_Mo_framed 100 [.inr 5, .inl v1, .inl v2, .inr 999, .inr 999] [] σ Q := by
  refine fb_iload_n dd_Mo_framed_100 rfl (fb_aload_n dd_Mo_framed_101 rfl (by decide) (fb_getI (x := σ.1 160) 5 0 dd_Mo_framed_102 rfl rfl rfl (by decide) lk_Mo_72 rfl ?_))
  obtain ⟨q1, h⟩ := h
  obtain ⟨q2, h⟩ := h
  refine fb_icmp_ge (tgt := 136) dd_Mo_framed_105 rfl q1 q2 (fun hc => ?_) (fun hc => ?_)
  · replace h := h.1 hc
    refine fb_iload_n dd_Mo_framed_136 rfl ?_
    obtain ⟨q3, h⟩ := h
    exact fb_zret dd_Mo_framed_137 rfl q3 h
  · replace h := h.2 hc
    refine fb_aload_n dd_Mo_framed_108 rfl (by decide) (fb_iload_n dd_Mo_framed_109 rfl ?_)
    refine fb_callVi (z := fb_Mo_end) (k := 5) (vs := [.inl v2]) (st := []) dd_Mo_framed_110 vw_Mo_102 (by decide) ⟨_, rfl⟩ rfl rfl (np := 1) (by decide +kernel) rfl rfl rfl rfl rfl (fb_mono h (fun r4 s5 h => ?_))
    refine fb_istore_n dd_Mo_framed_113 rfl rfl rfl (fb_iload_n dd_Mo_framed_114 rfl ?_)
    obtain ⟨q6, h⟩ := h
    refine fb_if_eq (tgt := 128) dd_Mo_framed_115 rfl q6 (fun hc => ?_) (fun hc => ?_)
    · replace h := h.1 hc
      refine fb_iconst dd_Mo_framed_128 (fb_istore_n dd_Mo_framed_129 rfl rfl rfl (fb_iinc dd_Mo_framed_130 rfl rfl rfl (fb_goto (tgt := 100) dd_Mo_framed_133 rfl ?_)))
      exact fb_drop (fb_sub_k (fb_sub_k (fb_sub_k (fb_sub_d (fb_sub_k fb_sub_0))))) h
    · replace h := h.2 hc
      refine fb_iload_n dd_Mo_framed_118 rfl (fb_bipush dd_Mo_framed_119 (by decide) ?_)
      obtain ⟨q7, h⟩ := h
      refine fb_icmp_gt (tgt := 128) dd_Mo_framed_121 rfl q7 (by decide) (fun hc => ?_) (fun hc => ?_)
      · replace h := h.1 hc
        refine fb_iconst dd_Mo_framed_128 (fb_istore_n dd_Mo_framed_129 rfl rfl rfl (fb_iinc dd_Mo_framed_130 rfl rfl rfl (fb_goto (tgt := 100) dd_Mo_framed_133 rfl ?_)))
        exact fb_drop (fb_sub_k (fb_sub_k (fb_sub_k (fb_sub_d (fb_sub_k fb_sub_0))))) h
      · replace h := h.2 hc
        refine fb_iconst dd_Mo_framed_124 (fb_goto (tgt := 129) dd_Mo_framed_125 rfl (fb_istore_n dd_Mo_framed_129 rfl rfl rfl (fb_iinc dd_Mo_framed_130 rfl rfl rfl (fb_goto (tgt := 100) dd_Mo_framed_133 rfl ?_))))
        exact fb_drop (fb_sub_k (fb_sub_k (fb_sub_k (fb_sub_d (fb_sub_k fb_sub_0))))) h

theorem Mo_place_b0 {E : fb_E} {σ : fb_S} {Q : Int → fb_S → Prop} (v1 v2 : Int) (h : (0 ≤ v1 ∧ v1 < 6) ∧ (fb_V E fb_Mo_place 10 [.inr 5, .inl v1, .inl v2, .inl (σ.2 47 v1), .inl 0] [] σ Q)) : fb_V E fb_Mo_place 0 [.inr 5, .inl v1, .inl v2, .inr 999, .inr 999] [] σ Q := by
  refine fb_aload_n dd_Mo_place_0 rfl (by decide) (fb_getR 5 10 dd_Mo_place_1 rfl rfl rfl (by decide) lk_Mo_31 (fb_iload_n dd_Mo_place_4 rfl ?_))
  obtain ⟨q1, h⟩ := h
  refine fb_ild (x := σ.2 47 v1) dd_Mo_place_5 rfl q1 rfl (fb_istore_n dd_Mo_place_6 rfl rfl rfl (fb_iconst dd_Mo_place_7 (fb_istore dd_Mo_place_8 rfl rfl rfl ?_)))
  exact h
theorem Mo_place_b10 {E : fb_E} {σ : fb_S} {Q : Int → fb_S → Prop} (v1 v2 v3 v4 : Int) (h : (-2147483648 ≤ v4 ∧ v4 < 2147483648) ∧ ((-2147483648 ≤ v2 ∧ v2 < 2147483648) ∧ ((v2 ≤ v4 → Q v3 σ) ∧ (¬ v2 ≤ v4 → (0 ≤ ((6 * v1) + v4) ∧ ((6 * v1) + v4) < 36) ∧ (fb_V E fb_Mo_place 10 [.inr 5, .inl v1, .inl v2, .inl (v3 + (σ.2 42 ((6 * v1) + v4))), .inl (v4 + 1)] [] σ Q))))) : fb_V E fb_Mo_place 10 [.inr 5, .inl v1, .inl v2, .inl v3, .inl v4] [] σ Q := by
  refine fb_iload dd_Mo_place_10 rfl (fb_iload_n dd_Mo_place_12 rfl ?_)
  obtain ⟨q1, h⟩ := h
  obtain ⟨q2, h⟩ := h
  refine fb_icmp_ge (tgt := 37) dd_Mo_place_13 rfl q1 q2 (fun hc => ?_) (fun hc => ?_)
  · replace h := h.1 hc
    refine fb_iload_n dd_Mo_place_37 rfl ?_
    exact fb_iret dd_Mo_place_38 rfl h
  · replace h := h.2 hc
    refine fb_iload_n dd_Mo_place_16 rfl (fb_aload_n dd_Mo_place_17 rfl (by decide) (fb_getR 5 4 dd_Mo_place_18 rfl rfl rfl (by decide) lk_Mo_16 (fb_bipush dd_Mo_place_21 (by decide) (fb_iload_n dd_Mo_place_23 rfl (fb_imul dd_Mo_place_24 (fb_iload dd_Mo_place_25 rfl (fb_iadd dd_Mo_place_27 ?_)))))))
    obtain ⟨q3, h⟩ := h
    refine fb_ild (x := σ.2 42 ((6 * v1) + v4)) dd_Mo_place_28 rfl q3 rfl (fb_iadd dd_Mo_place_29 (fb_istore_n dd_Mo_place_30 rfl rfl rfl (fb_iinc dd_Mo_place_31 rfl rfl rfl (fb_goto (tgt := 10) dd_Mo_place_34 rfl ?_))))
    exact h

theorem Mo_part_b0 {E : fb_E} {σ : fb_S} {Q : Int → fb_S → Prop} (v1 v2 v3 : Int) (h : (-2147483648 ≤ v3 ∧ v3 < 2147483648) ∧ ((¬ v3 = 1 → fb_V E fb_Mo_place 0 [.inr 5, .inl v1, .inl v2, .inr 999, .inr 999] [] σ (fun r2 s3 => Q (r2 + v3) s3)) ∧ (v3 = 1 → (0 ≤ ((6 * v1) + v2) ∧ ((6 * v1) + v2) < 36) ∧ ((-2147483648 ≤ (σ.2 42 ((6 * v1) + v2)) ∧ (σ.2 42 ((6 * v1) + v2)) < 2147483648) ∧ ((¬ (σ.2 42 ((6 * v1) + v2)) = 1 → fb_V E fb_Mo_place 0 [.inr 5, .inl v1, .inl v2, .inr 999, .inr 999] [] σ (fun r6 s7 => Q (r6 + v3) s7)) ∧ ((σ.2 42 ((6 * v1) + v2)) = 1 → Q 256 σ)))))) : fb_V E fb_Mo_part 0 [.inr 5, .inl v1, .inl v2, .inl v3] [] σ Q := by
  refine fb_iload_n dd_Mo_part_0 rfl (fb_iconst dd_Mo_part_1 ?_)
  obtain ⟨q1, h⟩ := h
  refine fb_icmp_ne (tgt := 26) dd_Mo_part_2 rfl q1 (by decide) (fun hc => ?_) (fun hc => ?_)
  · replace h := h.1 hc
    refine fb_aload_n dd_Mo_part_26 rfl (by decide) (fb_iload_n dd_Mo_part_27 rfl (fb_iload_n dd_Mo_part_28 rfl ?_))
    refine fb_callVi (z := fb_Mo_place) (k := 5) (vs := [.inl v1, .inl v2]) (st := []) dd_Mo_part_29 vw_Mo_105 (by decide) ⟨_, rfl⟩ rfl rfl (np := 2) (by decide +kernel) rfl rfl rfl rfl rfl (fb_mono h (fun r2 s3 h => ?_))
    refine fb_iload_n dd_Mo_part_32 rfl (fb_iadd dd_Mo_part_33 ?_)
    exact fb_iret dd_Mo_part_34 rfl h
  · replace h := h.2 hc
    refine fb_aload_n dd_Mo_part_5 rfl (by decide) (fb_getR 5 4 dd_Mo_part_6 rfl rfl rfl (by decide) lk_Mo_16 (fb_bipush dd_Mo_part_9 (by decide) (fb_iload_n dd_Mo_part_11 rfl (fb_imul dd_Mo_part_12 (fb_iload_n dd_Mo_part_13 rfl (fb_iadd dd_Mo_part_14 ?_))))))
    obtain ⟨q4, h⟩ := h
    refine fb_ild (x := σ.2 42 ((6 * v1) + v2)) dd_Mo_part_15 rfl q4 rfl (fb_iconst dd_Mo_part_16 ?_)
    obtain ⟨q5, h⟩ := h
    refine fb_icmp_ne (tgt := 26) dd_Mo_part_17 rfl q5 (by decide) (fun hc => ?_) (fun hc => ?_)
    · replace h := h.1 hc
      refine fb_aload_n dd_Mo_part_26 rfl (by decide) (fb_iload_n dd_Mo_part_27 rfl (fb_iload_n dd_Mo_part_28 rfl ?_))
      refine fb_callVi (z := fb_Mo_place) (k := 5) (vs := [.inl v1, .inl v2]) (st := []) dd_Mo_part_29 vw_Mo_105 (by decide) ⟨_, rfl⟩ rfl rfl (np := 2) (by decide +kernel) rfl rfl rfl rfl rfl (fb_mono h (fun r6 s7 h => ?_))
      refine fb_iload_n dd_Mo_part_32 rfl (fb_iadd dd_Mo_part_33 ?_)
      exact fb_iret dd_Mo_part_34 rfl h
    · replace h := h.2 hc
      refine fb_sipush dd_Mo_part_20 (by decide) (fb_goto (tgt := 34) dd_Mo_part_23 rfl ?_)
      exact fb_iret dd_Mo_part_34 rfl h

theorem Mo_put_b0 {E : fb_E} {σ : fb_S} {Q : Int → fb_S → Prop} (v1 : Int) (h : (0 ≤ (σ.1 173) ∧ (σ.1 173) < 1700) ∧ (Q 0 (fb_sg (fb_sm σ 49 (σ.1 173) (v1 % 256)) 173 ((σ.1 173) + 1)))) : fb_V E fb_Mo_put 0 [.inr 5, .inl v1] [] σ Q := by
  refine fb_aload_n dd_Mo_put_0 rfl (by decide) (fb_getR 5 12 dd_Mo_put_1 rfl rfl rfl (by decide) lk_Mo_38 (fb_aload_n dd_Mo_put_4 rfl (by decide) (fb_getI (x := σ.1 173) 5 13 dd_Mo_put_5 rfl rfl rfl (by decide) lk_Mo_109 rfl (fb_iload_n dd_Mo_put_8 rfl (fb_sipush dd_Mo_put_9 (by decide) (fb_iandM 8 (p := 256) (by decide) (by decide) (by decide) dd_Mo_put_12 ?_))))))
  obtain ⟨q1, h⟩ := h
  refine fb_ist dd_Mo_put_13 rfl q1 (fb_aload_n dd_Mo_put_14 rfl (by decide) (fb_dup dd_Mo_put_15 (fb_getI (x := σ.1 173) 5 13 dd_Mo_put_16 rfl rfl rfl (by decide) lk_Mo_109 rfl (fb_iconst dd_Mo_put_19 (fb_iadd dd_Mo_put_20 (fb_putI 5 13 dd_Mo_put_21 rfl rfl rfl (by decide) rfl (by decide +kernel) lk_Mo_109 ?_))))))
  exact fb_vret dd_Mo_put_24 rfl h

theorem Mo_plain_b0 {E : fb_E} {σ : fb_S} {Q : Int → fb_S → Prop} (v1 : Int) (h : fb_V E fb_Mo_put 0 [.inr 5, .inl (8 * v1)] [] σ (fun _ s2 => Q 0 (fb_sg s2 181 ((s2.1 181) + 1)))) : fb_V E fb_Mo_plain 0 [.inr 5, .inl v1] [] σ Q := by
  refine fb_aload_n dd_Mo_plain_0 rfl (by decide) (fb_bipush dd_Mo_plain_1 (by decide) (fb_iload_n dd_Mo_plain_3 rfl (fb_imul dd_Mo_plain_4 ?_)))
  refine fb_callVv (z := fb_Mo_put) (k := 5) (vs := [.inl (8 * v1)]) (st := []) dd_Mo_plain_5 vw_Mo_112 (by decide) rfl rfl rfl (np := 1) (by decide +kernel) rfl rfl rfl rfl rfl (fb_mono h (fun r1 s2 h => ?_))
  refine fb_aload_n dd_Mo_plain_8 rfl (by decide) (fb_dup dd_Mo_plain_9 (fb_getI (x := s2.1 181) 5 21 dd_Mo_plain_10 rfl rfl rfl (by decide) lk_Mo_116 rfl (fb_iconst dd_Mo_plain_13 (fb_iadd dd_Mo_plain_14 (fb_putI 5 21 dd_Mo_plain_15 rfl rfl rfl (by decide) rfl (by decide +kernel) lk_Mo_116 ?_)))))
  exact fb_vret dd_Mo_plain_18 rfl h
