theorem Pr_addFunction_b0 {E : fb_E} {σ : fb_S} {Q : Int → fb_S → Prop} (h : (-2147483648 ≤ (σ.1 41) ∧ (σ.1 41) < 2147483648) ∧ (((σ.1 41) < 6 → (0 ≤ (σ.1 41) ∧ (σ.1 41) < 6) ∧ (Q (((σ.1 41) + 1) - 1) (fb_sg (fb_sm σ 14 (σ.1 41) (σ.1 42)) 41 ((σ.1 41) + 1)))) ∧ (¬ (σ.1 41) < 6 → Q (-1) σ))) : fb_V E fb_Pr_addFunction 0 [.inr 1] [] σ Q := by
  refine fb_aload_n dd_Pr_addFunction_0 rfl (by decide) (fb_getI (x := σ.1 41) 1 9 dd_Pr_addFunction_1 rfl rfl rfl (by decide) lk_Pr_41 rfl (fb_bipush dd_Pr_addFunction_4 (by decide) ?_))
  obtain ⟨q1, h⟩ := h
  refine fb_icmp_lt (tgt := 11) dd_Pr_addFunction_6 rfl q1 (by decide) (fun hc => ?_) (fun hc => ?_)
  · replace h := h.1 hc
    refine fb_aload_n dd_Pr_addFunction_11 rfl (by decide) (fb_getR 1 2 dd_Pr_addFunction_12 rfl rfl rfl (by decide) lk_Pr_20 (fb_aload_n dd_Pr_addFunction_15 rfl (by decide) (fb_getI (x := σ.1 41) 1 9 dd_Pr_addFunction_16 rfl rfl rfl (by decide) lk_Pr_41 rfl (fb_aload_n dd_Pr_addFunction_19 rfl (by decide) (fb_getI (x := σ.1 42) 1 10 dd_Pr_addFunction_20 rfl rfl rfl (by decide) lk_Pr_45 rfl ?_)))))
    obtain ⟨q2, h⟩ := h
    refine fb_ist dd_Pr_addFunction_23 rfl q2 (fb_aload_n dd_Pr_addFunction_24 rfl (by decide) (fb_dup dd_Pr_addFunction_25 (fb_getI (x := σ.1 41) 1 9 dd_Pr_addFunction_26 rfl rfl rfl (by decide) lk_Pr_41 rfl (fb_iconst dd_Pr_addFunction_29 (fb_iadd dd_Pr_addFunction_30 (fb_putI 1 9 dd_Pr_addFunction_31 rfl rfl rfl (by decide) rfl (by decide +kernel) lk_Pr_41 (fb_aload_n dd_Pr_addFunction_34 rfl (by decide) ?_)))))))
    refine fb_getI (x := (σ.1 41) + 1) 1 9 dd_Pr_addFunction_35 rfl rfl rfl (by decide) lk_Pr_41 rfl (fb_iconst dd_Pr_addFunction_38 (fb_isub dd_Pr_addFunction_39 ?_))
    exact fb_iret dd_Pr_addFunction_40 rfl h
  · replace h := h.2 hc
    refine fb_iconst dd_Pr_addFunction_9 ?_
    exact fb_iret dd_Pr_addFunction_10 rfl h

theorem Pr_addVariable_b0 {E : fb_E} {σ : fb_S} {Q : Int → fb_S → Prop} (v1 : Int) (h : (-2147483648 ≤ ((σ.1 41) - 1) ∧ ((σ.1 41) - 1) < 2147483648) ∧ ((((σ.1 41) - 1) < 0 → Q (-1) σ) ∧ (¬ ((σ.1 41) - 1) < 0 → (-2147483648 ≤ v1 ∧ v1 < 2147483648) ∧ ((v1 < 1 → Q (-1) σ) ∧ (¬ v1 < 1 → (8 < v1 → Q (-1) σ) ∧ (¬ 8 < v1 → (0 ≤ ((σ.1 41) - 1) ∧ ((σ.1 41) - 1) < 6) ∧ ((-2147483648 ≤ (σ.2 13 ((σ.1 41) - 1)) ∧ (σ.2 13 ((σ.1 41) - 1)) < 2147483648) ∧ (((σ.2 13 ((σ.1 41) - 1)) < 6 → (0 ≤ (σ.2 13 ((σ.1 41) - 1)) ∧ (σ.2 13 ((σ.1 41) - 1)) < 6) ∧ (Q (σ.2 13 ((σ.1 41) - 1)) (fb_sm (fb_sm σ (7 + ((σ.1 41) - 1).toNat) (σ.2 13 ((σ.1 41) - 1)) v1) 13 ((σ.1 41) - 1) (((fb_sm σ (7 + ((σ.1 41) - 1).toNat) (σ.2 13 ((σ.1 41) - 1)) v1).2 13 ((σ.1 41) - 1)) + 1)))) ∧ (¬ (σ.2 13 ((σ.1 41) - 1)) < 6 → Q (-1) σ))))))))) : fb_V E fb_Pr_addVariable 0 [.inr 1, .inl v1, .inr 999, .inr 999] [] σ Q := by
  refine fb_aload_n dd_Pr_addVariable_0 rfl (by decide) (fb_getI (x := σ.1 41) 1 9 dd_Pr_addVariable_1 rfl rfl rfl (by decide) lk_Pr_41 rfl (fb_iconst dd_Pr_addVariable_4 (fb_isub dd_Pr_addVariable_5 (fb_istore_n dd_Pr_addVariable_6 rfl rfl rfl (fb_iload_n dd_Pr_addVariable_7 rfl ?_)))))
  obtain ⟨q1, h⟩ := h
  refine fb_if_lt (tgt := 33) dd_Pr_addVariable_8 rfl q1 (fun hc => ?_) (fun hc => ?_)
  · replace h := h.1 hc
    refine fb_iconst dd_Pr_addVariable_33 ?_
    exact fb_iret dd_Pr_addVariable_34 rfl h
  · replace h := h.2 hc
    refine fb_iload_n dd_Pr_addVariable_11 rfl (fb_iconst dd_Pr_addVariable_12 ?_)
    obtain ⟨q2, h⟩ := h
    refine fb_icmp_lt (tgt := 33) dd_Pr_addVariable_13 rfl q2 (by decide) (fun hc => ?_) (fun hc => ?_)
    · replace h := h.1 hc
      refine fb_iconst dd_Pr_addVariable_33 ?_
      exact fb_iret dd_Pr_addVariable_34 rfl h
    · replace h := h.2 hc
      refine fb_iload_n dd_Pr_addVariable_16 rfl (fb_bipush dd_Pr_addVariable_17 (by decide) ?_)
      refine fb_icmp_gt (tgt := 33) dd_Pr_addVariable_19 rfl q2 (by decide) (fun hc => ?_) (fun hc => ?_)
      · replace h := h.1 hc
        refine fb_iconst dd_Pr_addVariable_33 ?_
        exact fb_iret dd_Pr_addVariable_34 rfl h
      · replace h := h.2 hc
        refine fb_aload_n dd_Pr_addVariable_22 rfl (by decide) (fb_getR 1 1 dd_Pr_addVariable_23 rfl rfl rfl (by decide) lk_Pr_16 (fb_iload_n dd_Pr_addVariable_26 rfl ?_))
        obtain ⟨q3, h⟩ := h
        refine fb_ild (x := σ.2 13 ((σ.1 41) - 1)) dd_Pr_addVariable_27 rfl q3 rfl (fb_bipush dd_Pr_addVariable_28 (by decide) ?_)
        obtain ⟨q4, h⟩ := h
        refine fb_icmp_lt (tgt := 35) dd_Pr_addVariable_30 rfl q4 (by decide) (fun hc => ?_) (fun hc => ?_)
        · replace h := h.1 hc
          refine fb_aload_n dd_Pr_addVariable_35 rfl (by decide) (fb_getR 1 1 dd_Pr_addVariable_36 rfl rfl rfl (by decide) lk_Pr_16 (fb_iload_n dd_Pr_addVariable_39 rfl (fb_ild (x := σ.2 13 ((σ.1 41) - 1)) dd_Pr_addVariable_40 rfl q3 rfl (fb_istore_n dd_Pr_addVariable_41 rfl rfl rfl (fb_aload_n dd_Pr_addVariable_42 rfl (by decide) (fb_getR 1 0 dd_Pr_addVariable_43 rfl rfl rfl (by decide) lk_Pr_11 (fb_iload_n dd_Pr_addVariable_46 rfl ?_)))))))
          refine fb_ald dd_Pr_addVariable_47 rfl q3 (fb_iload_n dd_Pr_addVariable_48 rfl (fb_iload_n dd_Pr_addVariable_49 rfl ?_))
          obtain ⟨q5, h⟩ := h
          refine fb_ist dd_Pr_addVariable_50 (fb_row7 q3) q5 (fb_aload_n dd_Pr_addVariable_51 rfl (by decide) (fb_getR 1 1 dd_Pr_addVariable_52 rfl rfl rfl (by decide) lk_Pr_16 (fb_iload_n dd_Pr_addVariable_55 rfl (fb_dup2 dd_Pr_addVariable_56 (fb_ild (x := (fb_sm σ (7 + ((σ.1 41) - 1).toNat) (σ.2 13 ((σ.1 41) - 1)) v1).2 13 ((σ.1 41) - 1)) dd_Pr_addVariable_57 rfl q3 rfl (fb_iconst dd_Pr_addVariable_58 (fb_iadd dd_Pr_addVariable_59 ?_)))))))
          refine fb_ist dd_Pr_addVariable_60 rfl q3 (fb_iload_n dd_Pr_addVariable_61 rfl ?_)
          exact fb_iret dd_Pr_addVariable_62 rfl h
        · replace h := h.2 hc
          refine fb_iconst dd_Pr_addVariable_33 ?_
          exact fb_iret dd_Pr_addVariable_34 rfl h

theorem Pr_addInstruction_b0 {E : fb_E} {σ : fb_S} {Q : Int → fb_S → Prop} (v1 v2 v3 v4 : Int) (h : (-2147483648 ≤ ((σ.1 41) - 1) ∧ ((σ.1 41) - 1) < 2147483648) ∧ ((((σ.1 41) - 1) < 0 → Q (-1) σ) ∧ (¬ ((σ.1 41) - 1) < 0 → (0 ≤ ((σ.1 41) - 1) ∧ ((σ.1 41) - 1) < 6) ∧ ((-2147483648 ≤ (σ.2 15 ((σ.1 41) - 1)) ∧ (σ.2 15 ((σ.1 41) - 1)) < 2147483648) ∧ ((24 ≤ (σ.2 15 ((σ.1 41) - 1)) → Q (-1) σ) ∧ (¬ 24 ≤ (σ.2 15 ((σ.1 41) - 1)) → (-2147483648 ≤ (σ.1 42) ∧ (σ.1 42) < 2147483648) ∧ (((σ.1 42) < 60 → (-2147483648 ≤ v1 ∧ v1 < 2147483648) ∧ ((v1 < 0 → Q (-1) σ) ∧ (¬ v1 < 0 → (v1 ≤ 15 → (0 ≤ (3 * v1) ∧ (3 * v1) < 48) ∧ (fb_V E fb_Pr_suits 0 [.inr 1, .inl (fb_sorts ((3 * v1) : Int).toNat), .inl v2, .inr 999] [] σ (fun r7 s8 => (-2147483648 ≤ r7 ∧ r7 < 2147483648) ∧ ((r7 = 0 → Q (-1) s8) ∧ (¬ r7 = 0 → (0 ≤ ((3 * v1) + 1) ∧ ((3 * v1) + 1) < 48) ∧ (fb_V E fb_Pr_suits 0 [.inr 1, .inl (fb_sorts (((3 * v1) + 1) : Int).toNat), .inl v3, .inr 999] [] s8 (fun r11 s12 => (-2147483648 ≤ r11 ∧ r11 < 2147483648) ∧ ((r11 = 0 → Q (-1) s12) ∧ (¬ r11 = 0 → (0 ≤ ((3 * v1) + 2) ∧ ((3 * v1) + 2) < 48) ∧ (fb_V E fb_Pr_suits 0 [.inr 1, .inl (fb_sorts (((3 * v1) + 2) : Int).toNat), .inl v4, .inr 999] [] s12 (fun r15 s16 => (-2147483648 ≤ r15 ∧ r15 < 2147483648) ∧ ((¬ r15 = 0 → (0 ≤ (s16.1 42) ∧ (s16.1 42) < 60) ∧ (Q (((s16.2 15 ((σ.1 41) - 1)) + 1) - 1) (fb_sm (fb_sg (fb_sm (fb_sm (fb_sm (fb_sm (fb_sm s16 16 (s16.1 42) ((σ.1 41) - 1)) 17 (s16.1 42) v1) 18 (s16.1 42) v2) 19 (s16.1 42) v3) 20 (s16.1 42) v4) 42 ((s16.1 42) + 1)) 15 ((σ.1 41) - 1) ((s16.2 15 ((σ.1 41) - 1)) + 1)))) ∧ (r15 = 0 → Q (-1) s16))))))))))))) ∧ (¬ v1 ≤ 15 → Q (-1) σ)))) ∧ (¬ (σ.1 42) < 60 → Q (-1) σ)))))))) : fb_V E fb_Pr_addInstruction 0 [.inr 1, .inl v1, .inl v2, .inl v3, .inl v4, .inr 999] [] σ Q := by
  refine fb_aload_n dd_Pr_addInstruction_0 rfl (by decide) (fb_getI (x := σ.1 41) 1 9 dd_Pr_addInstruction_1 rfl rfl rfl (by decide) lk_Pr_41 rfl (fb_iconst dd_Pr_addInstruction_4 (fb_isub dd_Pr_addInstruction_5 (fb_istore dd_Pr_addInstruction_6 rfl rfl rfl (fb_iload dd_Pr_addInstruction_8 rfl ?_)))))
  obtain ⟨q1, h⟩ := h
  refine fb_if_lt (tgt := 34) dd_Pr_addInstruction_10 rfl q1 (fun hc => ?_) (fun hc => ?_)
  · replace h := h.1 hc
    refine fb_iconst dd_Pr_addInstruction_34 ?_
    exact fb_iret dd_Pr_addInstruction_35 rfl h
  · replace h := h.2 hc
    refine fb_aload_n dd_Pr_addInstruction_13 rfl (by decide) (fb_getR 1 3 dd_Pr_addInstruction_14 rfl rfl rfl (by decide) lk_Pr_23 (fb_iload dd_Pr_addInstruction_17 rfl ?_))
    obtain ⟨q2, h⟩ := h
    refine fb_ild (x := σ.2 15 ((σ.1 41) - 1)) dd_Pr_addInstruction_19 rfl q2 rfl (fb_bipush dd_Pr_addInstruction_20 (by decide) ?_)
    obtain ⟨q3, h⟩ := h
    refine fb_icmp_ge (tgt := 34) dd_Pr_addInstruction_22 rfl q3 (by decide) (fun hc => ?_) (fun hc => ?_)
    · replace h := h.1 hc
      refine fb_iconst dd_Pr_addInstruction_34 ?_
      exact fb_iret dd_Pr_addInstruction_35 rfl h
    · replace h := h.2 hc
      refine fb_aload_n dd_Pr_addInstruction_25 rfl (by decide) (fb_getI (x := σ.1 42) 1 10 dd_Pr_addInstruction_26 rfl rfl rfl (by decide) lk_Pr_45 rfl (fb_bipush dd_Pr_addInstruction_29 (by decide) ?_))
      obtain ⟨q4, h⟩ := h
      refine fb_icmp_lt (tgt := 36) dd_Pr_addInstruction_31 rfl q4 (by decide) (fun hc => ?_) (fun hc => ?_)
      · replace h := h.1 hc
        refine fb_iload_n dd_Pr_addInstruction_36 rfl ?_
        obtain ⟨q5, h⟩ := h
        refine fb_if_lt (tgt := 46) dd_Pr_addInstruction_37 rfl q5 (fun hc => ?_) (fun hc => ?_)
        · replace h := h.1 hc
          refine fb_iconst dd_Pr_addInstruction_46 ?_
          exact fb_iret dd_Pr_addInstruction_47 rfl h
        · replace h := h.2 hc
          refine fb_iload_n dd_Pr_addInstruction_40 rfl (fb_bipush dd_Pr_addInstruction_41 (by decide) ?_)
          refine fb_icmp_le (tgt := 48) dd_Pr_addInstruction_43 rfl q5 (by decide) (fun hc => ?_) (fun hc => ?_)
          · replace h := h.1 hc
            refine fb_aload_n dd_Pr_addInstruction_48 rfl (by decide) (fb_sorts_get dd_Pr_addInstruction_49 st_Pr_48 (fb_iconst dd_Pr_addInstruction_52 (fb_iload_n dd_Pr_addInstruction_53 rfl (fb_imul dd_Pr_addInstruction_54 ?_))))
            obtain ⟨q6, h⟩ := h
            refine fb_sorts_ld dd_Pr_addInstruction_55 q6 (fb_iload_n dd_Pr_addInstruction_56 rfl ?_)
            refine fb_callVi (z := fb_Pr_suits) (k := 1) (vs := [.inl (fb_sorts ((3 * v1) : Int).toNat), .inl v2]) (st := []) dd_Pr_addInstruction_57 vw_Pr_51 (by decide) ⟨_, rfl⟩ rfl rfl (np := 2) (by decide +kernel) rfl rfl rfl rfl rfl (fb_mono h (fun r7 s8 h => ?_))
            obtain ⟨q9, h⟩ := h
            refine fb_if_eq (tgt := 98) dd_Pr_addInstruction_60 rfl q9 (fun hc => ?_) (fun hc => ?_)
            · replace h := h.1 hc
              refine fb_iconst dd_Pr_addInstruction_98 ?_
              exact fb_iret dd_Pr_addInstruction_99 rfl h
            · replace h := h.2 hc
              refine fb_aload_n dd_Pr_addInstruction_63 rfl (by decide) (fb_sorts_get dd_Pr_addInstruction_64 st_Pr_48 (fb_iconst dd_Pr_addInstruction_67 (fb_iload_n dd_Pr_addInstruction_68 rfl (fb_imul dd_Pr_addInstruction_69 (fb_iconst dd_Pr_addInstruction_70 (fb_iadd dd_Pr_addInstruction_71 ?_))))))
              obtain ⟨q10, h⟩ := h
              refine fb_sorts_ld dd_Pr_addInstruction_72 q10 (fb_iload_n dd_Pr_addInstruction_73 rfl ?_)
              refine fb_callVi (z := fb_Pr_suits) (k := 1) (vs := [.inl (fb_sorts (((3 * v1) + 1) : Int).toNat), .inl v3]) (st := []) dd_Pr_addInstruction_74 vw_Pr_51 (by decide) ⟨_, rfl⟩ rfl rfl (np := 2) (by decide +kernel) rfl rfl rfl rfl rfl (fb_mono h (fun r11 s12 h => ?_))
              obtain ⟨q13, h⟩ := h
              refine fb_if_eq (tgt := 98) dd_Pr_addInstruction_77 rfl q13 (fun hc => ?_) (fun hc => ?_)
              · replace h := h.1 hc
                refine fb_iconst dd_Pr_addInstruction_98 ?_
                exact fb_iret dd_Pr_addInstruction_99 rfl h
              · replace h := h.2 hc
                refine fb_aload_n dd_Pr_addInstruction_80 rfl (by decide) (fb_sorts_get dd_Pr_addInstruction_81 st_Pr_48 (fb_iconst dd_Pr_addInstruction_84 (fb_iload_n dd_Pr_addInstruction_85 rfl (fb_imul dd_Pr_addInstruction_86 (fb_iconst dd_Pr_addInstruction_87 (fb_iadd dd_Pr_addInstruction_88 ?_))))))
                obtain ⟨q14, h⟩ := h
                refine fb_sorts_ld dd_Pr_addInstruction_89 q14 (fb_iload dd_Pr_addInstruction_90 rfl ?_)
                refine fb_callVi (z := fb_Pr_suits) (k := 1) (vs := [.inl (fb_sorts (((3 * v1) + 2) : Int).toNat), .inl v4]) (st := []) dd_Pr_addInstruction_92 vw_Pr_51 (by decide) ⟨_, rfl⟩ rfl rfl (np := 2) (by decide +kernel) rfl rfl rfl rfl rfl (fb_mono h (fun r15 s16 h => ?_))
                obtain ⟨q17, h⟩ := h
                refine fb_if_ne (tgt := 100) dd_Pr_addInstruction_95 rfl q17 (fun hc => ?_) (fun hc => ?_)
                · replace h := h.1 hc
                  refine fb_aload_n dd_Pr_addInstruction_100 rfl (by decide) (fb_getR 1 4 dd_Pr_addInstruction_101 rfl rfl rfl (by decide) lk_Pr_26 (fb_aload_n dd_Pr_addInstruction_104 rfl (by decide) (fb_getI (x := s16.1 42) 1 10 dd_Pr_addInstruction_105 rfl rfl rfl (by decide) lk_Pr_45 rfl (fb_iload dd_Pr_addInstruction_108 rfl ?_))))
                  obtain ⟨q18, h⟩ := h
                  refine fb_ist dd_Pr_addInstruction_110 rfl q18 (fb_aload_n dd_Pr_addInstruction_111 rfl (by decide) (fb_getR 1 5 dd_Pr_addInstruction_112 rfl rfl rfl (by decide) lk_Pr_29 (fb_aload_n dd_Pr_addInstruction_115 rfl (by decide) (fb_getI (x := s16.1 42) 1 10 dd_Pr_addInstruction_116 rfl rfl rfl (by decide) lk_Pr_45 rfl (fb_iload_n dd_Pr_addInstruction_119 rfl (fb_ist dd_Pr_addInstruction_120 rfl q18 (fb_aload_n dd_Pr_addInstruction_121 rfl (by decide) ?_)))))))
                  refine fb_getR 1 6 dd_Pr_addInstruction_122 rfl rfl rfl (by decide) lk_Pr_32 (fb_aload_n dd_Pr_addInstruction_125 rfl (by decide) (fb_getI (x := s16.1 42) 1 10 dd_Pr_addInstruction_126 rfl rfl rfl (by decide) lk_Pr_45 rfl (fb_iload_n dd_Pr_addInstruction_129 rfl (fb_ist dd_Pr_addInstruction_130 rfl q18 (fb_aload_n dd_Pr_addInstruction_131 rfl (by decide) (fb_getR 1 7 dd_Pr_addInstruction_132 rfl rfl rfl (by decide) lk_Pr_35 (fb_aload_n dd_Pr_addInstruction_135 rfl (by decide) ?_)))))))
                  refine fb_getI (x := s16.1 42) 1 10 dd_Pr_addInstruction_136 rfl rfl rfl (by decide) lk_Pr_45 rfl (fb_iload_n dd_Pr_addInstruction_139 rfl (fb_ist dd_Pr_addInstruction_140 rfl q18 (fb_aload_n dd_Pr_addInstruction_141 rfl (by decide) (fb_getR 1 8 dd_Pr_addInstruction_142 rfl rfl rfl (by decide) lk_Pr_38 (fb_aload_n dd_Pr_addInstruction_145 rfl (by decide) (fb_getI (x := s16.1 42) 1 10 dd_Pr_addInstruction_146 rfl rfl rfl (by decide) lk_Pr_45 rfl (fb_iload dd_Pr_addInstruction_149 rfl ?_)))))))
                  refine fb_ist dd_Pr_addInstruction_151 rfl q18 (fb_aload_n dd_Pr_addInstruction_152 rfl (by decide) (fb_dup dd_Pr_addInstruction_153 (fb_getI (x := s16.1 42) 1 10 dd_Pr_addInstruction_154 rfl rfl rfl (by decide) lk_Pr_45 rfl (fb_iconst dd_Pr_addInstruction_157 (fb_iadd dd_Pr_addInstruction_158 (fb_putI 1 10 dd_Pr_addInstruction_159 rfl rfl rfl (by decide) rfl (by decide +kernel) lk_Pr_45 (fb_aload_n dd_Pr_addInstruction_162 rfl (by decide) ?_)))))))
                  refine fb_getR 1 3 dd_Pr_addInstruction_163 rfl rfl rfl (by decide) lk_Pr_23 (fb_iload dd_Pr_addInstruction_166 rfl (fb_dup2 dd_Pr_addInstruction_168 (fb_ild (x := s16.2 15 ((σ.1 41) - 1)) dd_Pr_addInstruction_169 rfl q2 rfl (fb_iconst dd_Pr_addInstruction_170 (fb_iadd dd_Pr_addInstruction_171 (fb_ist dd_Pr_addInstruction_172 rfl q2 (fb_aload_n dd_Pr_addInstruction_173 rfl (by decide) ?_)))))))
                  refine fb_getR 1 3 dd_Pr_addInstruction_174 rfl rfl rfl (by decide) lk_Pr_23 (fb_iload dd_Pr_addInstruction_177 rfl (fb_ild (x := (s16.2 15 ((σ.1 41) - 1)) + 1) dd_Pr_addInstruction_179 rfl q2 (fb_same (fb_sg (fb_sm (fb_sm (fb_sm (fb_sm (fb_sm s16 16 (s16.1 42) ((σ.1 41) - 1)) 17 (s16.1 42) v1) 18 (s16.1 42) v2) 19 (s16.1 42) v3) 20 (s16.1 42) v4) 42 ((s16.1 42) + 1)) 15 ((σ.1 41) - 1) ((s16.2 15 ((σ.1 41) - 1)) + 1)) (fb_iconst dd_Pr_addInstruction_180 (fb_isub dd_Pr_addInstruction_181 ?_))))
                  exact fb_iret dd_Pr_addInstruction_182 rfl h
                · replace h := h.2 hc
                  refine fb_iconst dd_Pr_addInstruction_98 ?_
                  exact fb_iret dd_Pr_addInstruction_99 rfl h
          · replace h := h.2 hc
            refine fb_iconst dd_Pr_addInstruction_46 ?_
            exact fb_iret dd_Pr_addInstruction_47 rfl h
      · replace h := h.2 hc
        refine fb_iconst dd_Pr_addInstruction_34 ?_
        exact fb_iret dd_Pr_addInstruction_35 rfl h

theorem Pr_suits_b0 {E : fb_E} {σ : fb_S} {Q : Int → fb_S → Prop} (v1 v2 : Int) (h : fb_V E fb_Pr_sizeOf 0 [.inr 1, .inl ((σ.1 41) - 1), .inl v2, .inr 999] [] σ (fun r1 s2 => (-2147483648 ≤ v1 ∧ v1 < 2147483648) ∧ ((v1 = 1 → fb_V E fb_Pr_isScalar 0 [.inl r1] [] s2 (fun r4 s5 => (r4 = 0 ∨ r4 = 1) ∧ (Q r4 s5))) ∧ (v1 = 2 → (-2147483648 ≤ r1 ∧ r1 < 2147483648) ∧ ((¬ r1 = 1 → Q 0 s2) ∧ (r1 = 1 → Q 1 s2))) ∧ (v1 = 3 → (-2147483648 ≤ r1 ∧ r1 < 2147483648) ∧ ((r1 ≤ 2 → Q 0 s2) ∧ (¬ r1 ≤ 2 → Q 1 s2))) ∧ (v1 = 4 → (-2147483648 ≤ v2 ∧ v2 < 2147483648) ∧ ((v2 < 0 → Q 0 s2) ∧ (¬ v2 < 0 → (65535 < v2 → Q 0 s2) ∧ (¬ 65535 < v2 → Q 1 s2)))) ∧ ((¬ v1 = 1 ∧ ¬ v1 = 2 ∧ ¬ v1 = 3 ∧ ¬ v1 = 4) → Q 1 s2)))) : fb_V E fb_Pr_suits 0 [.inr 1, .inl v1, .inl v2, .inr 999] [] σ Q := by
  refine fb_aload_n dd_Pr_suits_0 rfl (by decide) (fb_aload_n dd_Pr_suits_1 rfl (by decide) (fb_getI (x := σ.1 41) 1 9 dd_Pr_suits_2 rfl rfl rfl (by decide) lk_Pr_41 rfl (fb_iconst dd_Pr_suits_5 (fb_isub dd_Pr_suits_6 (fb_iload_n dd_Pr_suits_7 rfl ?_)))))
  refine fb_callVi (z := fb_Pr_sizeOf) (k := 1) (vs := [.inl ((σ.1 41) - 1), .inl v2]) (st := []) dd_Pr_suits_8 vw_Pr_55 (by decide) ⟨_, rfl⟩ rfl rfl (np := 2) (by decide +kernel) rfl rfl rfl rfl rfl (fb_mono h (fun r1 s2 h => ?_))
  refine fb_istore_n dd_Pr_suits_11 rfl rfl rfl (fb_iload_n dd_Pr_suits_12 rfl ?_)
  obtain ⟨q3, h⟩ := h
  rcases (show (v1 = 1) ∨ (v1 = 2) ∨ (v1 = 3) ∨ (v1 = 4) ∨ (¬ v1 = 1 ∧ ¬ v1 = 2 ∧ ¬ v1 = 3 ∧ ¬ v1 = 4) by omega) with hc | hc | hc | hc | hc
  · replace h := h.1 hc
    refine fb_tsIn (tgt := 44) (31) dd_Pr_suits_13 q3 (by omega) (by omega) (by rw [hc]; rfl) rfl ?_
    refine fb_iload_n dd_Pr_suits_44 rfl ?_
    refine fb_callSi (z := fb_Pr_isScalar) (vs := [.inl r1]) (st := []) dd_Pr_suits_45 sw_Pr_59 (by decide) ⟨_, rfl⟩ (np := 1) (by decide +kernel) rfl rfl rfl rfl rfl (fb_mono h (fun r4 s5 h => ?_))
    obtain ⟨q6, h⟩ := h
    exact fb_zret dd_Pr_suits_48 rfl q6 h
  · replace h := h.2.1 hc
    refine fb_tsIn (tgt := 49) (36) dd_Pr_suits_13 q3 (by omega) (by omega) (by rw [hc]; rfl) rfl ?_
    refine fb_iload_n dd_Pr_suits_49 rfl (fb_iconst dd_Pr_suits_50 ?_)
    obtain ⟨q7, h⟩ := h
    refine fb_icmp_ne (tgt := 58) dd_Pr_suits_51 rfl q7 (by decide) (fun hc => ?_) (fun hc => ?_)
    · replace h := h.1 hc
      refine fb_iconst dd_Pr_suits_58 ?_
      exact fb_zret dd_Pr_suits_59 rfl (by decide) h
    · replace h := h.2 hc
      refine fb_iconst dd_Pr_suits_54 (fb_goto (tgt := 59) dd_Pr_suits_55 rfl ?_)
      exact fb_zret dd_Pr_suits_59 rfl (by decide) h
  · replace h := h.2.2.1 hc
    refine fb_tsIn (tgt := 60) (47) dd_Pr_suits_13 q3 (by omega) (by omega) (by rw [hc]; rfl) rfl ?_
    refine fb_iload_n dd_Pr_suits_60 rfl (fb_iconst dd_Pr_suits_61 ?_)
    obtain ⟨q8, h⟩ := h
    refine fb_icmp_le (tgt := 69) dd_Pr_suits_62 rfl q8 (by decide) (fun hc => ?_) (fun hc => ?_)
    · replace h := h.1 hc
      refine fb_iconst dd_Pr_suits_69 ?_
      exact fb_zret dd_Pr_suits_70 rfl (by decide) h
    · replace h := h.2 hc
      refine fb_iconst dd_Pr_suits_65 (fb_goto (tgt := 70) dd_Pr_suits_66 rfl ?_)
      exact fb_zret dd_Pr_suits_70 rfl (by decide) h
  · replace h := h.2.2.2.1 hc
    refine fb_tsIn (tgt := 71) (58) dd_Pr_suits_13 q3 (by omega) (by omega) (by rw [hc]; rfl) rfl ?_
    refine fb_iload_n dd_Pr_suits_71 rfl ?_
    obtain ⟨q9, h⟩ := h
    refine fb_if_lt (tgt := 85) dd_Pr_suits_72 rfl q9 (fun hc => ?_) (fun hc => ?_)
    · replace h := h.1 hc
      refine fb_iconst dd_Pr_suits_85 ?_
      exact fb_zret dd_Pr_suits_86 rfl (by decide) h
    · replace h := h.2 hc
      refine fb_iload_n dd_Pr_suits_75 rfl (fb_ldc (n := 65535) dd_Pr_suits_76 cn_Pr_63 ?_)
      refine fb_icmp_gt (tgt := 85) dd_Pr_suits_78 rfl q9 (by decide) (fun hc => ?_) (fun hc => ?_)
      · replace h := h.1 hc
        refine fb_iconst dd_Pr_suits_85 ?_
        exact fb_zret dd_Pr_suits_86 rfl (by decide) h
      · replace h := h.2 hc
        refine fb_iconst dd_Pr_suits_81 (fb_goto (tgt := 86) dd_Pr_suits_82 rfl ?_)
        exact fb_zret dd_Pr_suits_86 rfl (by decide) h
  · replace h := h.2.2.2.2 hc
    refine fb_tsOut (tgt := 87) dd_Pr_suits_13 q3 (by omega) rfl ?_
    refine fb_iconst dd_Pr_suits_87 ?_
    exact fb_zret dd_Pr_suits_88 rfl (by decide) h

theorem Pr_isScalar_b0 {E : fb_E} {σ : fb_S} {Q : Int → fb_S → Prop} (v0 : Int) (h : (-2147483648 ≤ v0 ∧ v0 < 2147483648) ∧ ((v0 = 1 → Q 1 σ) ∧ (¬ v0 = 1 → (¬ v0 = 2 → Q 0 σ) ∧ (v0 = 2 → Q 1 σ)))) : fb_V E fb_Pr_isScalar 0 [.inl v0] [] σ Q := by
  refine fb_iload_n dd_Pr_isScalar_0 rfl (fb_iconst dd_Pr_isScalar_1 ?_)
  obtain ⟨q1, h⟩ := h
  refine fb_icmp_eq (tgt := 10) dd_Pr_isScalar_2 rfl q1 (by decide) (fun hc => ?_) (fun hc => ?_)
  · replace h := h.1 hc
    refine fb_iconst dd_Pr_isScalar_10 (fb_goto (tgt := 15) dd_Pr_isScalar_11 rfl ?_)
    exact fb_zret dd_Pr_isScalar_15 rfl (by decide) h
  · replace h := h.2 hc
    refine fb_iload_n dd_Pr_isScalar_5 rfl (fb_iconst dd_Pr_isScalar_6 ?_)
    refine fb_icmp_ne (tgt := 14) dd_Pr_isScalar_7 rfl q1 (by decide) (fun hc => ?_) (fun hc => ?_)
    · replace h := h.1 hc
      refine fb_iconst dd_Pr_isScalar_14 ?_
      exact fb_zret dd_Pr_isScalar_15 rfl (by decide) h
    · replace h := h.2 hc
      refine fb_iconst dd_Pr_isScalar_10 (fb_goto (tgt := 15) dd_Pr_isScalar_11 rfl ?_)
      exact fb_zret dd_Pr_isScalar_15 rfl (by decide) h

theorem Pr_hasFunction_b0 {E : fb_E} {σ : fb_S} {Q : Int → fb_S → Prop} (v1 : Int) (h : (-2147483648 ≤ v1 ∧ v1 < 2147483648) ∧ ((v1 < 0 → Q 0 σ) ∧ (¬ v1 < 0 → (-2147483648 ≤ (σ.1 41) ∧ (σ.1 41) < 2147483648) ∧ (((σ.1 41) ≤ v1 → Q 0 σ) ∧ (¬ (σ.1 41) ≤ v1 → Q 1 σ))))) : fb_V E fb_Pr_hasFunction 0 [.inr 1, .inl v1] [] σ Q := by
  refine fb_iload_n dd_Pr_hasFunction_0 rfl ?_
  obtain ⟨q1, h⟩ := h
  refine fb_if_lt (tgt := 16) dd_Pr_hasFunction_1 rfl q1 (fun hc => ?_) (fun hc => ?_)
  · replace h := h.1 hc
    refine fb_iconst dd_Pr_hasFunction_16 ?_
    exact fb_zret dd_Pr_hasFunction_17 rfl (by decide) h
  · replace h := h.2 hc
    refine fb_iload_n dd_Pr_hasFunction_4 rfl (fb_aload_n dd_Pr_hasFunction_5 rfl (by decide) (fb_getI (x := σ.1 41) 1 9 dd_Pr_hasFunction_6 rfl rfl rfl (by decide) lk_Pr_41 rfl ?_))
    obtain ⟨q2, h⟩ := h
    refine fb_icmp_ge (tgt := 16) dd_Pr_hasFunction_9 rfl q1 q2 (fun hc => ?_) (fun hc => ?_)
    · replace h := h.1 hc
      refine fb_iconst dd_Pr_hasFunction_16 ?_
      exact fb_zret dd_Pr_hasFunction_17 rfl (by decide) h
    · replace h := h.2 hc
      refine fb_iconst dd_Pr_hasFunction_12 (fb_goto (tgt := 17) dd_Pr_hasFunction_13 rfl ?_)
      exact fb_zret dd_Pr_hasFunction_17 rfl (by decide) h

theorem Pr_hasInstruction_b0 {E : fb_E} {σ : fb_S} {Q : Int → fb_S → Prop} (v1 v2 : Int) (h : fb_V E fb_Pr_hasFunction 0 [.inr 1, .inl v1] [] σ (fun r1 s2 => (-2147483648 ≤ r1 ∧ r1 < 2147483648) ∧ ((r1 = 0 → Q 0 s2) ∧ (¬ r1 = 0 → (-2147483648 ≤ v2 ∧ v2 < 2147483648) ∧ ((v2 < 0 → Q 0 s2) ∧ (¬ v2 < 0 → (0 ≤ v1 ∧ v1 < 6) ∧ ((-2147483648 ≤ (s2.2 15 v1) ∧ (s2.2 15 v1) < 2147483648) ∧ (((s2.2 15 v1) ≤ v2 → Q 0 s2) ∧ (¬ (s2.2 15 v1) ≤ v2 → Q 1 s2))))))))) : fb_V E fb_Pr_hasInstruction 0 [.inr 1, .inl v1, .inl v2] [] σ Q := by
  refine fb_aload_n dd_Pr_hasInstruction_0 rfl (by decide) (fb_iload_n dd_Pr_hasInstruction_1 rfl ?_)
  refine fb_callVi (z := fb_Pr_hasFunction) (k := 1) (vs := [.inl v1]) (st := []) dd_Pr_hasInstruction_2 vw_Pr_64 (by decide) ⟨_, rfl⟩ rfl rfl (np := 1) (by decide +kernel) rfl rfl rfl rfl rfl (fb_mono h (fun r1 s2 h => ?_))
  obtain ⟨q3, h⟩ := h
  refine fb_if_eq (tgt := 26) dd_Pr_hasInstruction_5 rfl q3 (fun hc => ?_) (fun hc => ?_)
  · replace h := h.1 hc
    refine fb_iconst dd_Pr_hasInstruction_26 ?_
    exact fb_zret dd_Pr_hasInstruction_27 rfl (by decide) h
  · replace h := h.2 hc
    refine fb_iload_n dd_Pr_hasInstruction_8 rfl ?_
    obtain ⟨q4, h⟩ := h
    refine fb_if_lt (tgt := 26) dd_Pr_hasInstruction_9 rfl q4 (fun hc => ?_) (fun hc => ?_)
    · replace h := h.1 hc
      refine fb_iconst dd_Pr_hasInstruction_26 ?_
      exact fb_zret dd_Pr_hasInstruction_27 rfl (by decide) h
    · replace h := h.2 hc
      refine fb_iload_n dd_Pr_hasInstruction_12 rfl (fb_aload_n dd_Pr_hasInstruction_13 rfl (by decide) (fb_getR 1 3 dd_Pr_hasInstruction_14 rfl rfl rfl (by decide) lk_Pr_23 (fb_iload_n dd_Pr_hasInstruction_17 rfl ?_)))
      obtain ⟨q5, h⟩ := h
      refine fb_ild (x := s2.2 15 v1) dd_Pr_hasInstruction_18 rfl q5 rfl ?_
      obtain ⟨q6, h⟩ := h
      refine fb_icmp_ge (tgt := 26) dd_Pr_hasInstruction_19 rfl q4 q6 (fun hc => ?_) (fun hc => ?_)
      · replace h := h.1 hc
        refine fb_iconst dd_Pr_hasInstruction_26 ?_
        exact fb_zret dd_Pr_hasInstruction_27 rfl (by decide) h
      · replace h := h.2 hc
        refine fb_iconst dd_Pr_hasInstruction_22 (fb_goto (tgt := 27) dd_Pr_hasInstruction_23 rfl ?_)
        exact fb_zret dd_Pr_hasInstruction_27 rfl (by decide) h

theorem Pr_sizeOf_b0 {E : fb_E} {σ : fb_S} {Q : Int → fb_S → Prop} (v1 v2 : Int) (h : (-2147483648 ≤ v1 ∧ v1 < 2147483648) ∧ ((v1 < 0 → Q 0 σ) ∧ (¬ v1 < 0 → (-2147483648 ≤ (σ.1 41) ∧ (σ.1 41) < 2147483648) ∧ (((σ.1 41) ≤ v1 → Q 0 σ) ∧ (¬ (σ.1 41) ≤ v1 → (-2147483648 ≤ v2 ∧ v2 < 2147483648) ∧ ((v2 < 0 → Q 0 σ) ∧ (¬ v2 < 0 → (0 ≤ v1 ∧ v1 < 6) ∧ ((-2147483648 ≤ (σ.2 13 v1) ∧ (σ.2 13 v1) < 2147483648) ∧ (((σ.2 13 v1) ≤ v2 → Q 0 σ) ∧ (¬ (σ.2 13 v1) ≤ v2 → (0 ≤ v2 ∧ v2 < 6) ∧ (Q (σ.2 (7 + (v1).toNat) v2) σ))))))))))) : fb_V E fb_Pr_sizeOf 0 [.inr 1, .inl v1, .inl v2, .inr 999] [] σ Q := by
  refine fb_iload_n dd_Pr_sizeOf_0 rfl ?_
  obtain ⟨q1, h⟩ := h
  refine fb_if_lt (tgt := 30) dd_Pr_sizeOf_1 rfl q1 (fun hc => ?_) (fun hc => ?_)
  · replace h := h.1 hc
    refine fb_iconst dd_Pr_sizeOf_30 (fb_istore_n dd_Pr_sizeOf_31 rfl rfl rfl (fb_iload_n dd_Pr_sizeOf_32 rfl ?_))
    refine fb_if_eq (tgt := 47) dd_Pr_sizeOf_33 rfl (by decide) (fun _ => ?_) (fun hz => absurd hz (by decide))
    refine fb_iconst dd_Pr_sizeOf_47 ?_
    exact fb_iret dd_Pr_sizeOf_48 rfl h
  · replace h := h.2 hc
    refine fb_iload_n dd_Pr_sizeOf_4 rfl (fb_aload_n dd_Pr_sizeOf_5 rfl (by decide) (fb_getI (x := σ.1 41) 1 9 dd_Pr_sizeOf_6 rfl rfl rfl (by decide) lk_Pr_41 rfl ?_))
    obtain ⟨q2, h⟩ := h
    refine fb_icmp_ge (tgt := 30) dd_Pr_sizeOf_9 rfl q1 q2 (fun hc => ?_) (fun hc => ?_)
    · replace h := h.1 hc
      refine fb_iconst dd_Pr_sizeOf_30 (fb_istore_n dd_Pr_sizeOf_31 rfl rfl rfl (fb_iload_n dd_Pr_sizeOf_32 rfl ?_))
      refine fb_if_eq (tgt := 47) dd_Pr_sizeOf_33 rfl (by decide) (fun _ => ?_) (fun hz => absurd hz (by decide))
      refine fb_iconst dd_Pr_sizeOf_47 ?_
      exact fb_iret dd_Pr_sizeOf_48 rfl h
    · replace h := h.2 hc
      refine fb_iload_n dd_Pr_sizeOf_12 rfl ?_
      obtain ⟨q3, h⟩ := h
      refine fb_if_lt (tgt := 30) dd_Pr_sizeOf_13 rfl q3 (fun hc => ?_) (fun hc => ?_)
      · replace h := h.1 hc
        refine fb_iconst dd_Pr_sizeOf_30 (fb_istore_n dd_Pr_sizeOf_31 rfl rfl rfl (fb_iload_n dd_Pr_sizeOf_32 rfl ?_))
        refine fb_if_eq (tgt := 47) dd_Pr_sizeOf_33 rfl (by decide) (fun _ => ?_) (fun hz => absurd hz (by decide))
        refine fb_iconst dd_Pr_sizeOf_47 ?_
        exact fb_iret dd_Pr_sizeOf_48 rfl h
      · replace h := h.2 hc
        refine fb_iload_n dd_Pr_sizeOf_16 rfl (fb_aload_n dd_Pr_sizeOf_17 rfl (by decide) (fb_getR 1 1 dd_Pr_sizeOf_18 rfl rfl rfl (by decide) lk_Pr_16 (fb_iload_n dd_Pr_sizeOf_21 rfl ?_)))
        obtain ⟨q4, h⟩ := h
        refine fb_ild (x := σ.2 13 v1) dd_Pr_sizeOf_22 rfl q4 rfl ?_
        obtain ⟨q5, h⟩ := h
        refine fb_icmp_ge (tgt := 30) dd_Pr_sizeOf_23 rfl q3 q5 (fun hc => ?_) (fun hc => ?_)
        · replace h := h.1 hc
          refine fb_iconst dd_Pr_sizeOf_30 (fb_istore_n dd_Pr_sizeOf_31 rfl rfl rfl (fb_iload_n dd_Pr_sizeOf_32 rfl ?_))
          refine fb_if_eq (tgt := 47) dd_Pr_sizeOf_33 rfl (by decide) (fun _ => ?_) (fun hz => absurd hz (by decide))
          refine fb_iconst dd_Pr_sizeOf_47 ?_
          exact fb_iret dd_Pr_sizeOf_48 rfl h
        · replace h := h.2 hc
          refine fb_iconst dd_Pr_sizeOf_26 (fb_goto (tgt := 31) dd_Pr_sizeOf_27 rfl (fb_istore_n dd_Pr_sizeOf_31 rfl rfl rfl (fb_iload_n dd_Pr_sizeOf_32 rfl ?_)))
          refine fb_if_eq (tgt := 47) dd_Pr_sizeOf_33 rfl (by decide) (fun hz => absurd hz (by decide)) (fun _ => ?_)
          refine fb_aload_n dd_Pr_sizeOf_36 rfl (by decide) (fb_getR 1 0 dd_Pr_sizeOf_37 rfl rfl rfl (by decide) lk_Pr_11 (fb_iload_n dd_Pr_sizeOf_40 rfl (fb_ald dd_Pr_sizeOf_41 rfl q4 (fb_iload_n dd_Pr_sizeOf_42 rfl ?_))))
          obtain ⟨q6, h⟩ := h
          refine fb_ild (x := σ.2 (7 + (v1).toNat) v2) dd_Pr_sizeOf_43 (fb_row7 q4) q6 rfl (fb_goto (tgt := 48) dd_Pr_sizeOf_44 rfl ?_)
          exact fb_iret dd_Pr_sizeOf_48 rfl h

theorem Pr_frameSizeOf_b0 {E : fb_E} {σ : fb_S} {Q : Int → fb_S → Prop} (v1 : Int) (h : fb_V E fb_Pr_frameSizeOf 4 [.inr 1, .inl v1, .inl 0, .inl 0] [] σ Q) : fb_V E fb_Pr_frameSizeOf 0 [.inr 1, .inl v1, .inr 999, .inr 999] [] σ Q := by
  refine fb_iconst dd_Pr_frameSizeOf_0 (fb_istore_n dd_Pr_frameSizeOf_1 rfl rfl rfl (fb_iconst dd_Pr_frameSizeOf_2 (fb_istore_n dd_Pr_frameSizeOf_3 rfl rfl rfl ?_)))
  exact h
theorem Pr_frameSizeOf_b4 {E : fb_E} {σ : fb_S} {Q : Int → fb_S → Prop} (v1 v2 v3 : Int) (h : (0 ≤ v1 ∧ v1 < 6) ∧ ((-2147483648 ≤ v3 ∧ v3 < 2147483648) ∧ ((-2147483648 ≤ (σ.2 13 v1) ∧ (σ.2 13 v1) < 2147483648) ∧ (((σ.2 13 v1) ≤ v3 → Q v2 σ) ∧ (¬ (σ.2 13 v1) ≤ v3 → (0 ≤ v3 ∧ v3 < 6) ∧ (fb_V E fb_Pr_frameSizeOf 4 [.inr 1, .inl v1, .inl (v2 + (σ.2 (7 + (v1).toNat) v3)), .inl (v3 + 1)] [] σ Q)))))) : fb_V E fb_Pr_frameSizeOf 4 [.inr 1, .inl v1, .inl v2, .inl v3] [] σ Q := by
  refine fb_iload_n dd_Pr_frameSizeOf_4 rfl (fb_aload_n dd_Pr_frameSizeOf_5 rfl (by decide) (fb_getR 1 1 dd_Pr_frameSizeOf_6 rfl rfl rfl (by decide) lk_Pr_16 (fb_iload_n dd_Pr_frameSizeOf_9 rfl ?_)))
  obtain ⟨q1, h⟩ := h
  refine fb_ild (x := σ.2 13 v1) dd_Pr_frameSizeOf_10 rfl q1 rfl ?_
  obtain ⟨q2, h⟩ := h
  obtain ⟨q3, h⟩ := h
  refine fb_icmp_ge (tgt := 31) dd_Pr_frameSizeOf_11 rfl q2 q3 (fun hc => ?_) (fun hc => ?_)
  · replace h := h.1 hc
    refine fb_iload_n dd_Pr_frameSizeOf_31 rfl ?_
    exact fb_iret dd_Pr_frameSizeOf_32 rfl h
  · replace h := h.2 hc
    refine fb_iload_n dd_Pr_frameSizeOf_14 rfl (fb_aload_n dd_Pr_frameSizeOf_15 rfl (by decide) (fb_getR 1 0 dd_Pr_frameSizeOf_16 rfl rfl rfl (by decide) lk_Pr_11 (fb_iload_n dd_Pr_frameSizeOf_19 rfl (fb_ald dd_Pr_frameSizeOf_20 rfl q1 (fb_iload_n dd_Pr_frameSizeOf_21 rfl ?_)))))
    obtain ⟨q4, h⟩ := h
    refine fb_ild (x := σ.2 (7 + (v1).toNat) v3) dd_Pr_frameSizeOf_22 (fb_row7 q1) q4 rfl (fb_iadd dd_Pr_frameSizeOf_23 (fb_istore_n dd_Pr_frameSizeOf_24 rfl rfl rfl (fb_iinc dd_Pr_frameSizeOf_25 rfl rfl rfl (fb_goto (tgt := 4) dd_Pr_frameSizeOf_28 rfl ?_))))
    exact h

theorem Pr_hasTarget_b0 {E : fb_E} {σ : fb_S} {Q : Int → fb_S → Prop} (v1 : Int) (h : (0 ≤ v1 ∧ v1 < 60) ∧ ((-2147483648 ≤ (σ.2 17 v1) ∧ (σ.2 17 v1) < 2147483648) ∧ (((σ.2 17 v1) = 10 → Q 1 σ) ∧ (¬ (σ.2 17 v1) = 10 → ((σ.2 17 v1) = 11 → Q 1 σ) ∧ (¬ (σ.2 17 v1) = 11 → (¬ (σ.2 17 v1) = 12 → Q 0 σ) ∧ ((σ.2 17 v1) = 12 → Q 1 σ)))))) : fb_V E fb_Pr_hasTarget 0 [.inr 1, .inl v1] [] σ Q := by
  refine fb_aload_n dd_Pr_hasTarget_0 rfl (by decide) (fb_getR 1 5 dd_Pr_hasTarget_1 rfl rfl rfl (by decide) lk_Pr_29 (fb_iload_n dd_Pr_hasTarget_4 rfl ?_))
  obtain ⟨q1, h⟩ := h
  refine fb_ild (x := σ.2 17 v1) dd_Pr_hasTarget_5 rfl q1 rfl (fb_bipush dd_Pr_hasTarget_6 (by decide) ?_)
  obtain ⟨q2, h⟩ := h
  refine fb_icmp_eq (tgt := 33) dd_Pr_hasTarget_8 rfl q2 (by decide) (fun hc => ?_) (fun hc => ?_)
  · replace h := h.1 hc
    refine fb_iconst dd_Pr_hasTarget_33 (fb_goto (tgt := 38) dd_Pr_hasTarget_34 rfl ?_)
    exact fb_zret dd_Pr_hasTarget_38 rfl (by decide) h
  · replace h := h.2 hc
    refine fb_aload_n dd_Pr_hasTarget_11 rfl (by decide) (fb_getR 1 5 dd_Pr_hasTarget_12 rfl rfl rfl (by decide) lk_Pr_29 (fb_iload_n dd_Pr_hasTarget_15 rfl (fb_ild (x := σ.2 17 v1) dd_Pr_hasTarget_16 rfl q1 rfl (fb_bipush dd_Pr_hasTarget_17 (by decide) ?_))))
    refine fb_icmp_eq (tgt := 33) dd_Pr_hasTarget_19 rfl q2 (by decide) (fun hc => ?_) (fun hc => ?_)
    · replace h := h.1 hc
      refine fb_iconst dd_Pr_hasTarget_33 (fb_goto (tgt := 38) dd_Pr_hasTarget_34 rfl ?_)
      exact fb_zret dd_Pr_hasTarget_38 rfl (by decide) h
    · replace h := h.2 hc
      refine fb_aload_n dd_Pr_hasTarget_22 rfl (by decide) (fb_getR 1 5 dd_Pr_hasTarget_23 rfl rfl rfl (by decide) lk_Pr_29 (fb_iload_n dd_Pr_hasTarget_26 rfl (fb_ild (x := σ.2 17 v1) dd_Pr_hasTarget_27 rfl q1 rfl (fb_bipush dd_Pr_hasTarget_28 (by decide) ?_))))
      refine fb_icmp_ne (tgt := 37) dd_Pr_hasTarget_30 rfl q2 (by decide) (fun hc => ?_) (fun hc => ?_)
      · replace h := h.1 hc
        refine fb_iconst dd_Pr_hasTarget_37 ?_
        exact fb_zret dd_Pr_hasTarget_38 rfl (by decide) h
      · replace h := h.2 hc
        refine fb_iconst dd_Pr_hasTarget_33 (fb_goto (tgt := 38) dd_Pr_hasTarget_34 rfl ?_)
        exact fb_zret dd_Pr_hasTarget_38 rfl (by decide) h

theorem Pr_targetOf_b0 {E : fb_E} {σ : fb_S} {Q : Int → fb_S → Prop} (v1 : Int) (h : (0 ≤ v1 ∧ v1 < 60) ∧ ((-2147483648 ≤ (σ.2 17 v1) ∧ (σ.2 17 v1) < 2147483648) ∧ ((¬ (σ.2 17 v1) = 10 → (¬ (σ.2 17 v1) = 11 → Q (σ.2 20 v1) σ) ∧ ((σ.2 17 v1) = 11 → Q (σ.2 19 v1) σ)) ∧ ((σ.2 17 v1) = 10 → Q (σ.2 18 v1) σ)))) : fb_V E fb_Pr_targetOf 0 [.inr 1, .inl v1] [] σ Q := by
  refine fb_aload_n dd_Pr_targetOf_0 rfl (by decide) (fb_getR 1 5 dd_Pr_targetOf_1 rfl rfl rfl (by decide) lk_Pr_29 (fb_iload_n dd_Pr_targetOf_4 rfl ?_))
  obtain ⟨q1, h⟩ := h
  refine fb_ild (x := σ.2 17 v1) dd_Pr_targetOf_5 rfl q1 rfl (fb_bipush dd_Pr_targetOf_6 (by decide) ?_)
  obtain ⟨q2, h⟩ := h
  refine fb_icmp_ne (tgt := 18) dd_Pr_targetOf_8 rfl q2 (by decide) (fun hc => ?_) (fun hc => ?_)
  · replace h := h.1 hc
    refine fb_aload_n dd_Pr_targetOf_18 rfl (by decide) (fb_getR 1 5 dd_Pr_targetOf_19 rfl rfl rfl (by decide) lk_Pr_29 (fb_iload_n dd_Pr_targetOf_22 rfl (fb_ild (x := σ.2 17 v1) dd_Pr_targetOf_23 rfl q1 rfl (fb_bipush dd_Pr_targetOf_24 (by decide) ?_))))
    refine fb_icmp_ne (tgt := 38) dd_Pr_targetOf_26 rfl q2 (by decide) (fun hc => ?_) (fun hc => ?_)
    · replace h := h.1 hc
      refine fb_aload_n dd_Pr_targetOf_38 rfl (by decide) (fb_getR 1 8 dd_Pr_targetOf_39 rfl rfl rfl (by decide) lk_Pr_38 (fb_iload_n dd_Pr_targetOf_42 rfl (fb_ild (x := σ.2 20 v1) dd_Pr_targetOf_43 rfl q1 rfl ?_)))
      exact fb_iret dd_Pr_targetOf_44 rfl h
    · replace h := h.2 hc
      refine fb_aload_n dd_Pr_targetOf_29 rfl (by decide) (fb_getR 1 7 dd_Pr_targetOf_30 rfl rfl rfl (by decide) lk_Pr_35 (fb_iload_n dd_Pr_targetOf_33 rfl (fb_ild (x := σ.2 19 v1) dd_Pr_targetOf_34 rfl q1 rfl (fb_goto (tgt := 44) dd_Pr_targetOf_35 rfl ?_))))
      exact fb_iret dd_Pr_targetOf_44 rfl h
  · replace h := h.2 hc
    refine fb_aload_n dd_Pr_targetOf_11 rfl (by decide) (fb_getR 1 6 dd_Pr_targetOf_12 rfl rfl rfl (by decide) lk_Pr_32 (fb_iload_n dd_Pr_targetOf_15 rfl (fb_ild (x := σ.2 18 v1) dd_Pr_targetOf_16 rfl q1 rfl ?_)))
    exact fb_iret dd_Pr_targetOf_17 rfl h

theorem Pr_goalOf_b0 {E : fb_E} {σ : fb_S} {Q : Int → fb_S → Prop} (v1 : Int) (h : (0 ≤ v1 ∧ v1 < 60) ∧ ((0 ≤ (σ.2 16 v1) ∧ (σ.2 16 v1) < 6) ∧ (fb_V E fb_Pr_targetOf 0 [.inr 1, .inl v1] [] σ (fun r3 s4 => Q ((σ.2 14 (σ.2 16 v1)) + r3) s4)))) : fb_V E fb_Pr_goalOf 0 [.inr 1, .inl v1] [] σ Q := by
  refine fb_aload_n dd_Pr_goalOf_0 rfl (by decide) (fb_getR 1 2 dd_Pr_goalOf_1 rfl rfl rfl (by decide) lk_Pr_20 (fb_aload_n dd_Pr_goalOf_4 rfl (by decide) (fb_getR 1 4 dd_Pr_goalOf_5 rfl rfl rfl (by decide) lk_Pr_26 (fb_iload_n dd_Pr_goalOf_8 rfl ?_))))
  obtain ⟨q1, h⟩ := h
  refine fb_ild (x := σ.2 16 v1) dd_Pr_goalOf_9 rfl q1 rfl ?_
  obtain ⟨q2, h⟩ := h
  refine fb_ild (x := σ.2 14 (σ.2 16 v1)) dd_Pr_goalOf_10 rfl q2 rfl (fb_aload_n dd_Pr_goalOf_11 rfl (by decide) (fb_iload_n dd_Pr_goalOf_12 rfl ?_))
  refine fb_callVi (z := fb_Pr_targetOf) (k := 1) (vs := [.inl v1]) (st := [.inl (σ.2 14 (σ.2 16 v1))]) dd_Pr_goalOf_13 vw_Pr_67 (by decide) ⟨_, rfl⟩ rfl rfl (np := 1) (by decide +kernel) rfl rfl rfl rfl rfl (fb_mono h (fun r3 s4 h => ?_))
  refine fb_iadd dd_Pr_goalOf_16 ?_
  exact fb_iret dd_Pr_goalOf_17 rfl h

theorem Pr_isWhole_b0 {E : fb_E} {σ : fb_S} {Q : Int → fb_S → Prop} (h : fb_V E fb_Pr_isWhole 2 [.inr 1, .inl 0, .inr 999] [] σ Q) : fb_V E fb_Pr_isWhole 0 [.inr 1, .inr 999, .inr 999] [] σ Q := by
  refine fb_iconst dd_Pr_isWhole_0 (fb_istore_n dd_Pr_isWhole_1 rfl rfl rfl ?_)
  exact h
theorem Pr_isWhole_b2 {E : fb_E} {σ : fb_S} {Q : Int → fb_S → Prop} (v1 : Int) (h : (-2147483648 ≤ v1 ∧ v1 < 2147483648) ∧ ((-2147483648 ≤ (σ.1 41) ∧ (σ.1 41) < 2147483648) ∧ (((σ.1 41) ≤ v1 → ((σ.1 41) ≤ 0 → Q 0 σ) ∧ (¬ (σ.1 41) ≤ 0 → Q 1 σ)) ∧ (¬ (σ.1 41) ≤ v1 → (0 ≤ v1 ∧ v1 < 6) ∧ ((-2147483648 ≤ (σ.2 15 v1) ∧ (σ.2 15 v1) < 2147483648) ∧ ((¬ (σ.2 15 v1) = 0 → (0 ≤ (((σ.2 14 v1) + (σ.2 15 v1)) - 1) ∧ (((σ.2 14 v1) + (σ.2 15 v1)) - 1) < 60) ∧ ((-2147483648 ≤ (σ.2 17 (((σ.2 14 v1) + (σ.2 15 v1)) - 1)) ∧ (σ.2 17 (((σ.2 14 v1) + (σ.2 15 v1)) - 1)) < 2147483648) ∧ (((σ.2 17 (((σ.2 14 v1) + (σ.2 15 v1)) - 1)) = 10 → fb_V E fb_Pr_isWhole 2 [.inr 1, .inl (v1 + 1), .inr 999] [] σ Q) ∧ (¬ (σ.2 17 (((σ.2 14 v1) + (σ.2 15 v1)) - 1)) = 10 → ((σ.2 17 (((σ.2 14 v1) + (σ.2 15 v1)) - 1)) = 14 → fb_V E fb_Pr_isWhole 2 [.inr 1, .inl (v1 + 1), .inr 999] [] σ Q) ∧ (¬ (σ.2 17 (((σ.2 14 v1) + (σ.2 15 v1)) - 1)) = 14 → Q 0 σ))))) ∧ ((σ.2 15 v1) = 0 → Q 0 σ))))))) : fb_V E fb_Pr_isWhole 2 [.inr 1, .inl v1, .inr 999] [] σ Q := by
  refine fb_iload_n dd_Pr_isWhole_2 rfl (fb_aload_n dd_Pr_isWhole_3 rfl (by decide) (fb_getI (x := σ.1 41) 1 9 dd_Pr_isWhole_4 rfl rfl rfl (by decide) lk_Pr_41 rfl ?_))
  obtain ⟨q1, h⟩ := h
  obtain ⟨q2, h⟩ := h
  refine fb_icmp_ge (tgt := 62) dd_Pr_isWhole_7 rfl q1 q2 (fun hc => ?_) (fun hc => ?_)
  · replace h := h.1 hc
    refine fb_aload_n dd_Pr_isWhole_62 rfl (by decide) (fb_getI (x := σ.1 41) 1 9 dd_Pr_isWhole_63 rfl rfl rfl (by decide) lk_Pr_41 rfl ?_)
    refine fb_if_le (tgt := 73) dd_Pr_isWhole_66 rfl q2 (fun hc => ?_) (fun hc => ?_)
    · replace h := h.1 hc
      refine fb_iconst dd_Pr_isWhole_73 ?_
      exact fb_zret dd_Pr_isWhole_74 rfl (by decide) h
    · replace h := h.2 hc
      refine fb_iconst dd_Pr_isWhole_69 (fb_goto (tgt := 74) dd_Pr_isWhole_70 rfl ?_)
      exact fb_zret dd_Pr_isWhole_74 rfl (by decide) h
  · replace h := h.2 hc
    refine fb_aload_n dd_Pr_isWhole_10 rfl (by decide) (fb_getR 1 3 dd_Pr_isWhole_11 rfl rfl rfl (by decide) lk_Pr_23 (fb_iload_n dd_Pr_isWhole_14 rfl ?_))
    obtain ⟨q3, h⟩ := h
    refine fb_ild (x := σ.2 15 v1) dd_Pr_isWhole_15 rfl q3 rfl ?_
    obtain ⟨q4, h⟩ := h
    refine fb_if_ne (tgt := 21) dd_Pr_isWhole_16 rfl q4 (fun hc => ?_) (fun hc => ?_)
    · replace h := h.1 hc
      refine fb_aload_n dd_Pr_isWhole_21 rfl (by decide) (fb_getR 1 5 dd_Pr_isWhole_22 rfl rfl rfl (by decide) lk_Pr_29 (fb_aload_n dd_Pr_isWhole_25 rfl (by decide) (fb_getR 1 2 dd_Pr_isWhole_26 rfl rfl rfl (by decide) lk_Pr_20 (fb_iload_n dd_Pr_isWhole_29 rfl (fb_ild (x := σ.2 14 v1) dd_Pr_isWhole_30 rfl q3 rfl (fb_aload_n dd_Pr_isWhole_31 rfl (by decide) (fb_getR 1 3 dd_Pr_isWhole_32 rfl rfl rfl (by decide) lk_Pr_23 ?_)))))))
      refine fb_iload_n dd_Pr_isWhole_35 rfl (fb_ild (x := σ.2 15 v1) dd_Pr_isWhole_36 rfl q3 rfl (fb_iadd dd_Pr_isWhole_37 (fb_iconst dd_Pr_isWhole_38 (fb_isub dd_Pr_isWhole_39 ?_))))
      obtain ⟨q5, h⟩ := h
      refine fb_ild (x := σ.2 17 (((σ.2 14 v1) + (σ.2 15 v1)) - 1)) dd_Pr_isWhole_40 rfl q5 rfl (fb_istore_n dd_Pr_isWhole_41 rfl rfl rfl (fb_iload_n dd_Pr_isWhole_42 rfl (fb_bipush dd_Pr_isWhole_43 (by decide) ?_)))
      obtain ⟨q6, h⟩ := h
      refine fb_icmp_eq (tgt := 56) dd_Pr_isWhole_45 rfl q6 (by decide) (fun hc => ?_) (fun hc => ?_)
      · replace h := h.1 hc
        refine fb_iinc dd_Pr_isWhole_56 rfl rfl rfl (fb_goto (tgt := 2) dd_Pr_isWhole_59 rfl ?_)
        exact fb_drop (fb_sub_k (fb_sub_k (fb_sub_d fb_sub_0))) h
      · replace h := h.2 hc
        refine fb_iload_n dd_Pr_isWhole_48 rfl (fb_bipush dd_Pr_isWhole_49 (by decide) ?_)
        refine fb_icmp_eq (tgt := 56) dd_Pr_isWhole_51 rfl q6 (by decide) (fun hc => ?_) (fun hc => ?_)
        · replace h := h.1 hc
          refine fb_iinc dd_Pr_isWhole_56 rfl rfl rfl (fb_goto (tgt := 2) dd_Pr_isWhole_59 rfl ?_)
          exact fb_drop (fb_sub_k (fb_sub_k (fb_sub_d fb_sub_0))) h
        · replace h := h.2 hc
          refine fb_iconst dd_Pr_isWhole_54 ?_
          exact fb_zret dd_Pr_isWhole_55 rfl (by decide) h
    · replace h := h.2 hc
      refine fb_iconst dd_Pr_isWhole_19 ?_
      exact fb_zret dd_Pr_isWhole_20 rfl (by decide) h

theorem Pr_hasAllTargets_b0 {E : fb_E} {σ : fb_S} {Q : Int → fb_S → Prop} (h : fb_V E fb_Pr_hasAllTargets 2 [.inr 1, .inl 0] [] σ Q) : fb_V E fb_Pr_hasAllTargets 0 [.inr 1, .inr 999] [] σ Q := by
  refine fb_iconst dd_Pr_hasAllTargets_0 (fb_istore_n dd_Pr_hasAllTargets_1 rfl rfl rfl ?_)
  exact h
theorem Pr_hasAllTargets_b2 {E : fb_E} {σ : fb_S} {Q : Int → fb_S → Prop} (v1 : Int) (h : (-2147483648 ≤ v1 ∧ v1 < 2147483648) ∧ ((-2147483648 ≤ (σ.1 42) ∧ (σ.1 42) < 2147483648) ∧ (((σ.1 42) ≤ v1 → Q 1 σ) ∧ (¬ (σ.1 42) ≤ v1 → fb_V E fb_Pr_hasTarget 0 [.inr 1, .inl v1] [] σ (fun r3 s4 => (-2147483648 ≤ r3 ∧ r3 < 2147483648) ∧ ((r3 = 0 → fb_V E fb_Pr_hasAllTargets 2 [.inr 1, .inl (v1 + 1)] [] s4 Q) ∧ (¬ r3 = 0 → (0 ≤ v1 ∧ v1 < 60) ∧ (fb_V E fb_Pr_targetOf 0 [.inr 1, .inl v1] [] s4 (fun r7 s8 => fb_V E fb_Pr_hasInstruction 0 [.inr 1, .inl (s4.2 16 v1), .inl r7] [] s8 (fun r9 s10 => (-2147483648 ≤ r9 ∧ r9 < 2147483648) ∧ ((¬ r9 = 0 → fb_V E fb_Pr_hasAllTargets 2 [.inr 1, .inl (v1 + 1)] [] s10 Q) ∧ (r9 = 0 → Q 0 s10)))))))))))) : fb_V E fb_Pr_hasAllTargets 2 [.inr 1, .inl v1] [] σ Q := by
  refine fb_iload_n dd_Pr_hasAllTargets_2 rfl (fb_aload_n dd_Pr_hasAllTargets_3 rfl (by decide) (fb_getI (x := σ.1 42) 1 10 dd_Pr_hasAllTargets_4 rfl rfl rfl (by decide) lk_Pr_45 rfl ?_))
  obtain ⟨q1, h⟩ := h
  obtain ⟨q2, h⟩ := h
  refine fb_icmp_ge (tgt := 44) dd_Pr_hasAllTargets_7 rfl q1 q2 (fun hc => ?_) (fun hc => ?_)
  · replace h := h.1 hc
    refine fb_iconst dd_Pr_hasAllTargets_44 ?_
    exact fb_zret dd_Pr_hasAllTargets_45 rfl (by decide) h
  · replace h := h.2 hc
    refine fb_aload_n dd_Pr_hasAllTargets_10 rfl (by decide) (fb_iload_n dd_Pr_hasAllTargets_11 rfl ?_)
    refine fb_callVi (z := fb_Pr_hasTarget) (k := 1) (vs := [.inl v1]) (st := []) dd_Pr_hasAllTargets_12 vw_Pr_71 (by decide) ⟨_, rfl⟩ rfl rfl (np := 1) (by decide +kernel) rfl rfl rfl rfl rfl (fb_mono h (fun r3 s4 h => ?_))
    obtain ⟨q5, h⟩ := h
    refine fb_if_eq (tgt := 38) dd_Pr_hasAllTargets_15 rfl q5 (fun hc => ?_) (fun hc => ?_)
    · replace h := h.1 hc
      refine fb_iinc dd_Pr_hasAllTargets_38 rfl rfl rfl (fb_goto (tgt := 2) dd_Pr_hasAllTargets_41 rfl ?_)
      exact h
    · replace h := h.2 hc
      refine fb_aload_n dd_Pr_hasAllTargets_18 rfl (by decide) (fb_aload_n dd_Pr_hasAllTargets_19 rfl (by decide) (fb_getR 1 4 dd_Pr_hasAllTargets_20 rfl rfl rfl (by decide) lk_Pr_26 (fb_iload_n dd_Pr_hasAllTargets_23 rfl ?_)))
      obtain ⟨q6, h⟩ := h
      refine fb_ild (x := s4.2 16 v1) dd_Pr_hasAllTargets_24 rfl q6 rfl (fb_aload_n dd_Pr_hasAllTargets_25 rfl (by decide) (fb_iload_n dd_Pr_hasAllTargets_26 rfl ?_))
      refine fb_callVi (z := fb_Pr_targetOf) (k := 1) (vs := [.inl v1]) (st := [.inl (s4.2 16 v1), .inr 1]) dd_Pr_hasAllTargets_27 vw_Pr_67 (by decide) ⟨_, rfl⟩ rfl rfl (np := 1) (by decide +kernel) rfl rfl rfl rfl rfl (fb_mono h (fun r7 s8 h => ?_))
      refine fb_callVi (z := fb_Pr_hasInstruction) (k := 1) (vs := [.inl (s4.2 16 v1), .inl r7]) (st := []) dd_Pr_hasAllTargets_30 vw_Pr_74 (by decide) ⟨_, rfl⟩ rfl rfl (np := 2) (by decide +kernel) rfl rfl rfl rfl rfl (fb_mono h (fun r9 s10 h => ?_))
      obtain ⟨q11, h⟩ := h
      refine fb_if_ne (tgt := 38) dd_Pr_hasAllTargets_33 rfl q11 (fun hc => ?_) (fun hc => ?_)
      · replace h := h.1 hc
        refine fb_iinc dd_Pr_hasAllTargets_38 rfl rfl rfl (fb_goto (tgt := 2) dd_Pr_hasAllTargets_41 rfl ?_)
        exact h
      · replace h := h.2 hc
        refine fb_iconst dd_Pr_hasAllTargets_36 ?_
        exact fb_zret dd_Pr_hasAllTargets_37 rfl (by decide) h

theorem Pr_hasAllCallees_b0 {E : fb_E} {σ : fb_S} {Q : Int → fb_S → Prop} (h : fb_V E fb_Pr_hasAllCallees 2 [.inr 1, .inl 0] [] σ Q) : fb_V E fb_Pr_hasAllCallees 0 [.inr 1, .inr 999] [] σ Q := by
  refine fb_iconst dd_Pr_hasAllCallees_0 (fb_istore_n dd_Pr_hasAllCallees_1 rfl rfl rfl ?_)
  exact h
theorem Pr_hasAllCallees_b2 {E : fb_E} {σ : fb_S} {Q : Int → fb_S → Prop} (v1 : Int) (h : (-2147483648 ≤ v1 ∧ v1 < 2147483648) ∧ ((-2147483648 ≤ (σ.1 42) ∧ (σ.1 42) < 2147483648) ∧ (((σ.1 42) ≤ v1 → Q 1 σ) ∧ (¬ (σ.1 42) ≤ v1 → (0 ≤ v1 ∧ v1 < 60) ∧ ((-2147483648 ≤ (σ.2 17 v1) ∧ (σ.2 17 v1) < 2147483648) ∧ ((¬ (σ.2 17 v1) = 13 → fb_V E fb_Pr_hasAllCallees 2 [.inr 1, .inl (v1 + 1)] [] σ Q) ∧ ((σ.2 17 v1) = 13 → fb_V E fb_Pr_hasFunction 0 [.inr 1, .inl (σ.2 18 v1)] [] σ (fun r5 s6 => (-2147483648 ≤ r5 ∧ r5 < 2147483648) ∧ ((¬ r5 = 0 → fb_V E fb_Pr_hasAllCallees 2 [.inr 1, .inl (v1 + 1)] [] s6 Q) ∧ (r5 = 0 → Q 0 s6)))))))))) : fb_V E fb_Pr_hasAllCallees 2 [.inr 1, .inl v1] [] σ Q := by
  refine fb_iload_n dd_Pr_hasAllCallees_2 rfl (fb_aload_n dd_Pr_hasAllCallees_3 rfl (by decide) (fb_getI (x := σ.1 42) 1 10 dd_Pr_hasAllCallees_4 rfl rfl rfl (by decide) lk_Pr_45 rfl ?_))
  obtain ⟨q1, h⟩ := h
  obtain ⟨q2, h⟩ := h
  refine fb_icmp_ge (tgt := 42) dd_Pr_hasAllCallees_7 rfl q1 q2 (fun hc => ?_) (fun hc => ?_)
  · replace h := h.1 hc
    refine fb_iconst dd_Pr_hasAllCallees_42 ?_
    exact fb_zret dd_Pr_hasAllCallees_43 rfl (by decide) h
  · replace h := h.2 hc
    refine fb_aload_n dd_Pr_hasAllCallees_10 rfl (by decide) (fb_getR 1 5 dd_Pr_hasAllCallees_11 rfl rfl rfl (by decide) lk_Pr_29 (fb_iload_n dd_Pr_hasAllCallees_14 rfl ?_))
    obtain ⟨q3, h⟩ := h
    refine fb_ild (x := σ.2 17 v1) dd_Pr_hasAllCallees_15 rfl q3 rfl (fb_bipush dd_Pr_hasAllCallees_16 (by decide) ?_)
    obtain ⟨q4, h⟩ := h
    refine fb_icmp_ne (tgt := 36) dd_Pr_hasAllCallees_18 rfl q4 (by decide) (fun hc => ?_) (fun hc => ?_)
    · replace h := h.1 hc
      refine fb_iinc dd_Pr_hasAllCallees_36 rfl rfl rfl (fb_goto (tgt := 2) dd_Pr_hasAllCallees_39 rfl ?_)
      exact h
    · replace h := h.2 hc
      refine fb_aload_n dd_Pr_hasAllCallees_21 rfl (by decide) (fb_aload_n dd_Pr_hasAllCallees_22 rfl (by decide) (fb_getR 1 6 dd_Pr_hasAllCallees_23 rfl rfl rfl (by decide) lk_Pr_32 (fb_iload_n dd_Pr_hasAllCallees_26 rfl (fb_ild (x := σ.2 18 v1) dd_Pr_hasAllCallees_27 rfl q3 rfl ?_))))
      refine fb_callVi (z := fb_Pr_hasFunction) (k := 1) (vs := [.inl (σ.2 18 v1)]) (st := []) dd_Pr_hasAllCallees_28 vw_Pr_64 (by decide) ⟨_, rfl⟩ rfl rfl (np := 1) (by decide +kernel) rfl rfl rfl rfl rfl (fb_mono h (fun r5 s6 h => ?_))
      obtain ⟨q7, h⟩ := h
      refine fb_if_ne (tgt := 36) dd_Pr_hasAllCallees_31 rfl q7 (fun hc => ?_) (fun hc => ?_)
      · replace h := h.1 hc
        refine fb_iinc dd_Pr_hasAllCallees_36 rfl rfl rfl (fb_goto (tgt := 2) dd_Pr_hasAllCallees_39 rfl ?_)
        exact h
      · replace h := h.2 hc
        refine fb_iconst dd_Pr_hasAllCallees_34 ?_
        exact fb_zret dd_Pr_hasAllCallees_35 rfl (by decide) h
