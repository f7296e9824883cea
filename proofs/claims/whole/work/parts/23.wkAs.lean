theorem As_assemble_b0 {E : fb_E} {σ : fb_S} {Q : Int → fb_S → Prop} (h : fb_V E fb_As_markTargets 0 [.inr 3, .inr 999] [] σ (fun _ s2 => fb_V E fb_As_assemble 13 [.inr 3, .inl 1, .inl 0] [] (fb_sg s2 105 0) Q)) : fb_V E fb_As_assemble 0 [.inr 3, .inr 999, .inr 999] [] σ Q := by
  refine fb_aload_n dd_As_assemble_0 rfl (by decide) ?_
  refine fb_callVv (z := fb_As_markTargets) (k := 3) (vs := []) (st := []) dd_As_assemble_1 vw_As_39 (by decide) rfl rfl rfl (np := 0) (by decide +kernel) rfl rfl rfl rfl rfl (fb_mono h (fun r1 s2 h => ?_))
  refine fb_aload_n dd_As_assemble_4 rfl (by decide) (fb_iconst dd_As_assemble_5 (fb_putI 3 9 dd_As_assemble_6 rfl rfl rfl (by decide) rfl (by decide +kernel) lk_As_42 (fb_iconst dd_As_assemble_9 (fb_istore_n dd_As_assemble_10 rfl rfl rfl (fb_iconst dd_As_assemble_11 (fb_istore_n dd_As_assemble_12 rfl rfl rfl ?_))))))
  exact h
theorem As_assemble_b13 {E : fb_E} {σ : fb_S} {Q : Int → fb_S → Prop} (v1 v2 : Int) (h : (-2147483648 ≤ v2 ∧ v2 < 2147483648) ∧ ((60 < v2 → fb_V E fb_As_emitProgram 0 [.inr 3, .inr 999] [] σ (fun _ s3 => fb_V E fb_As_markLabels 0 [.inr 3, .inr 999, .inr 999] [] s3 (fun _ s5 => Q 0 s5))) ∧ (¬ 60 < v2 → (-2147483648 ≤ v1 ∧ v1 < 2147483648) ∧ ((v1 = 0 → fb_V E fb_As_emitProgram 0 [.inr 3, .inr 999] [] σ (fun _ s8 => fb_V E fb_As_markLabels 0 [.inr 3, .inr 999, .inr 999] [] s8 (fun _ s10 => Q 0 s10))) ∧ (¬ v1 = 0 → fb_V E fb_As_emitProgram 0 [.inr 3, .inr 999] [] σ (fun _ s12 => fb_V E fb_As_lengthenBranches 0 [.inr 3, .inr 999, .inr 999, .inr 999] [] s12 (fun r13 s14 => fb_V E fb_As_assemble 13 [.inr 3, .inl r13, .inl (v2 + 1)] [] s14 Q))))))) : fb_V E fb_As_assemble 13 [.inr 3, .inl v1, .inl v2] [] σ Q := by
  refine fb_iload_n dd_As_assemble_13 rfl (fb_bipush dd_As_assemble_14 (by decide) ?_)
  obtain ⟨q1, h⟩ := h
  refine fb_icmp_gt (tgt := 38) dd_As_assemble_16 rfl q1 (by decide) (fun hc => ?_) (fun hc => ?_)
  · replace h := h.1 hc
    refine fb_aload_n dd_As_assemble_38 rfl (by decide) ?_
    refine fb_callVv (z := fb_As_emitProgram) (k := 3) (vs := []) (st := []) dd_As_assemble_39 vw_As_46 (by decide) rfl rfl rfl (np := 0) (by decide +kernel) rfl rfl rfl rfl rfl (fb_mono h (fun r2 s3 h => ?_))
    refine fb_aload_n dd_As_assemble_42 rfl (by decide) ?_
    refine fb_callVv (z := fb_As_markLabels) (k := 3) (vs := []) (st := []) dd_As_assemble_43 vw_As_53 (by decide) rfl rfl rfl (np := 0) (by decide +kernel) rfl rfl rfl rfl rfl (fb_mono h (fun r4 s5 h => ?_))
    exact fb_vret dd_As_assemble_46 rfl h
  · replace h := h.2 hc
    refine fb_iload_n dd_As_assemble_19 rfl ?_
    obtain ⟨q6, h⟩ := h
    refine fb_if_eq (tgt := 38) dd_As_assemble_20 rfl q6 (fun hc => ?_) (fun hc => ?_)
    · replace h := h.1 hc
      refine fb_aload_n dd_As_assemble_38 rfl (by decide) ?_
      refine fb_callVv (z := fb_As_emitProgram) (k := 3) (vs := []) (st := []) dd_As_assemble_39 vw_As_46 (by decide) rfl rfl rfl (np := 0) (by decide +kernel) rfl rfl rfl rfl rfl (fb_mono h (fun r7 s8 h => ?_))
      refine fb_aload_n dd_As_assemble_42 rfl (by decide) ?_
      refine fb_callVv (z := fb_As_markLabels) (k := 3) (vs := []) (st := []) dd_As_assemble_43 vw_As_53 (by decide) rfl rfl rfl (np := 0) (by decide +kernel) rfl rfl rfl rfl rfl (fb_mono h (fun r9 s10 h => ?_))
      exact fb_vret dd_As_assemble_46 rfl h
    · replace h := h.2 hc
      refine fb_aload_n dd_As_assemble_23 rfl (by decide) ?_
      refine fb_callVv (z := fb_As_emitProgram) (k := 3) (vs := []) (st := []) dd_As_assemble_24 vw_As_46 (by decide) rfl rfl rfl (np := 0) (by decide +kernel) rfl rfl rfl rfl rfl (fb_mono h (fun r11 s12 h => ?_))
      refine fb_aload_n dd_As_assemble_27 rfl (by decide) ?_
      refine fb_callVi (z := fb_As_lengthenBranches) (k := 3) (vs := []) (st := []) dd_As_assemble_28 vw_As_49 (by decide) ⟨_, rfl⟩ rfl rfl (np := 0) (by decide +kernel) rfl rfl rfl rfl rfl (fb_mono h (fun r13 s14 h => ?_))
      refine fb_istore_n dd_As_assemble_31 rfl rfl rfl (fb_iinc dd_As_assemble_32 rfl rfl rfl (fb_goto (tgt := 13) dd_As_assemble_35 rfl ?_))
      exact h

theorem As_markTargets_b0 {E : fb_E} {σ : fb_S} {Q : Int → fb_S → Prop} (h : fb_V E fb_As_markTargets 2 [.inr 3, .inl 0] [] σ Q) : fb_V E fb_As_markTargets 0 [.inr 3, .inr 999] [] σ Q := by
  refine fb_iconst dd_As_markTargets_0 (fb_istore_n dd_As_markTargets_1 rfl rfl rfl ?_)
  exact h
theorem As_markTargets_b2 {E : fb_E} {σ : fb_S} {Q : Int → fb_S → Prop} (v1 : Int) (h : (-2147483648 ≤ v1 ∧ v1 < 2147483648) ∧ ((60 ≤ v1 → fb_V E fb_As_markTargets 30 [.inr 3, .inl 0] [] σ Q) ∧ (¬ 60 ≤ v1 → (0 ≤ v1 ∧ v1 < 60) ∧ (fb_V E fb_As_markTargets 2 [.inr 3, .inl (v1 + 1)] [] (fb_sm (fb_sm σ 35 v1 0) 36 v1 0) Q)))) : fb_V E fb_As_markTargets 2 [.inr 3, .inl v1] [] σ Q := by
  refine fb_iload_n dd_As_markTargets_2 rfl (fb_bipush dd_As_markTargets_3 (by decide) ?_)
  obtain ⟨q1, h⟩ := h
  refine fb_icmp_ge (tgt := 28) dd_As_markTargets_5 rfl q1 (by decide) (fun hc => ?_) (fun hc => ?_)
  · replace h := h.1 hc
    refine fb_iconst dd_As_markTargets_28 (fb_istore_n dd_As_markTargets_29 rfl rfl rfl ?_)
    exact h
  · replace h := h.2 hc
    refine fb_aload_n dd_As_markTargets_8 rfl (by decide) (fb_getR 3 6 dd_As_markTargets_9 rfl rfl rfl (by decide) lk_As_24 (fb_iload_n dd_As_markTargets_12 rfl (fb_iconst dd_As_markTargets_13 ?_)))
    obtain ⟨q2, h⟩ := h
    refine fb_zst dd_As_markTargets_14 (by decide) rfl q2 (fb_aload_n dd_As_markTargets_15 rfl (by decide) (fb_getR 3 7 dd_As_markTargets_16 rfl rfl rfl (by decide) lk_As_28 (fb_iload_n dd_As_markTargets_19 rfl (fb_iconst dd_As_markTargets_20 (fb_zst dd_As_markTargets_21 (by decide) rfl q2 (fb_iinc dd_As_markTargets_22 rfl rfl rfl (fb_goto (tgt := 2) dd_As_markTargets_25 rfl ?_)))))))
    exact h
theorem As_markTargets_b30 {E : fb_E} {σ : fb_S} {Q : Int → fb_S → Prop} (v1 : Int) (h : (-2147483648 ≤ v1 ∧ v1 < 2147483648) ∧ ((-2147483648 ≤ (σ.1 42) ∧ (σ.1 42) < 2147483648) ∧ (((σ.1 42) ≤ v1 → Q 0 σ) ∧ (¬ (σ.1 42) ≤ v1 → fb_V E fb_Pr_hasTarget 0 [.inr 1, .inl v1] [] σ (fun r3 s4 => (-2147483648 ≤ r3 ∧ r3 < 2147483648) ∧ ((r3 = 0 → fb_V E fb_As_markTargets 30 [.inr 3, .inl (v1 + 1)] [] s4 Q) ∧ (¬ r3 = 0 → fb_V E fb_Pr_goalOf 0 [.inr 1, .inl v1] [] s4 (fun r6 s7 => (0 ≤ r6 ∧ r6 < 60) ∧ (fb_V E fb_As_markTargets 30 [.inr 3, .inl (v1 + 1)] [] (fb_sm s7 35 r6 1) Q))))))))) : fb_V E fb_As_markTargets 30 [.inr 3, .inl v1] [] σ Q := by
  refine fb_iload_n dd_As_markTargets_30 rfl (fb_aload_n dd_As_markTargets_31 rfl (by decide) (fb_getR 3 0 dd_As_markTargets_32 rfl rfl rfl (by decide) lk_As_31 (fb_getI (x := σ.1 42) 1 10 dd_As_markTargets_35 rfl rfl rfl (by decide) lk_As_56 rfl ?_)))
  obtain ⟨q1, h⟩ := h
  obtain ⟨q2, h⟩ := h
  refine fb_icmp_ge (tgt := 72) dd_As_markTargets_38 rfl q1 q2 (fun hc => ?_) (fun hc => ?_)
  · replace h := h.1 hc
    exact fb_vret dd_As_markTargets_72 rfl h
  · replace h := h.2 hc
    refine fb_aload_n dd_As_markTargets_41 rfl (by decide) (fb_getR 3 0 dd_As_markTargets_42 rfl rfl rfl (by decide) lk_As_31 (fb_iload_n dd_As_markTargets_45 rfl ?_))
    refine fb_callVi (z := fb_Pr_hasTarget) (k := 1) (vs := [.inl v1]) (st := []) dd_As_markTargets_46 vw_As_61 (by decide) ⟨_, rfl⟩ rfl rfl (np := 1) (by decide +kernel) rfl rfl rfl rfl rfl (fb_mono h (fun r3 s4 h => ?_))
    obtain ⟨q5, h⟩ := h
    refine fb_if_eq (tgt := 66) dd_As_markTargets_49 rfl q5 (fun hc => ?_) (fun hc => ?_)
    · replace h := h.1 hc
      refine fb_iinc dd_As_markTargets_66 rfl rfl rfl (fb_goto (tgt := 30) dd_As_markTargets_69 rfl ?_)
      exact h
    · replace h := h.2 hc
      refine fb_aload_n dd_As_markTargets_52 rfl (by decide) (fb_getR 3 6 dd_As_markTargets_53 rfl rfl rfl (by decide) lk_As_24 (fb_aload_n dd_As_markTargets_56 rfl (by decide) (fb_getR 3 0 dd_As_markTargets_57 rfl rfl rfl (by decide) lk_As_31 (fb_iload_n dd_As_markTargets_60 rfl ?_))))
      refine fb_callVi (z := fb_Pr_goalOf) (k := 1) (vs := [.inl v1]) (st := [.inr 35]) dd_As_markTargets_61 vw_As_65 (by decide) ⟨_, rfl⟩ rfl rfl (np := 1) (by decide +kernel) rfl rfl rfl rfl rfl (fb_mono h (fun r6 s7 h => ?_))
      refine fb_iconst dd_As_markTargets_64 ?_
      obtain ⟨q8, h⟩ := h
      refine fb_zst dd_As_markTargets_65 (by decide) rfl q8 (fb_iinc dd_As_markTargets_66 rfl rfl rfl (fb_goto (tgt := 30) dd_As_markTargets_69 rfl ?_))
      exact h

theorem As_lengthenBranches_b0 {E : fb_E} {σ : fb_S} {Q : Int → fb_S → Prop} (h : fb_V E fb_As_lengthenBranches 7 [.inr 3, .inl (σ.1 105), .inl 0, .inr 999] [] σ Q) : fb_V E fb_As_lengthenBranches 0 [.inr 3, .inr 999, .inr 999, .inr 999] [] σ Q := by
  refine fb_aload_n dd_As_lengthenBranches_0 rfl (by decide) (fb_getI (x := σ.1 105) 3 9 dd_As_lengthenBranches_1 rfl rfl rfl (by decide) lk_As_42 rfl (fb_istore_n dd_As_lengthenBranches_4 rfl rfl rfl (fb_iconst dd_As_lengthenBranches_5 (fb_istore_n dd_As_lengthenBranches_6 rfl rfl rfl ?_))))
  exact h
theorem As_lengthenBranches_b7 {E : fb_E} {σ : fb_S} {Q : Int → fb_S → Prop} (v1 v2 : Int) (h : (-2147483648 ≤ v2 ∧ v2 < 2147483648) ∧ ((-2147483648 ≤ (σ.1 42) ∧ (σ.1 42) < 2147483648) ∧ (((σ.1 42) ≤ v2 → (-2147483648 ≤ (σ.1 105) ∧ (σ.1 105) < 2147483648) ∧ ((-2147483648 ≤ v1 ∧ v1 < 2147483648) ∧ (((σ.1 105) ≤ v1 → Q 0 σ) ∧ (¬ (σ.1 105) ≤ v1 → Q 1 σ)))) ∧ (¬ (σ.1 42) ≤ v2 → (0 ≤ v2 ∧ v2 < 60) ∧ ((-2147483648 ≤ (σ.2 17 v2) ∧ (σ.2 17 v2) < 2147483648) ∧ (((σ.2 17 v2) = 11 → (-2147483648 ≤ (σ.2 36 v2) ∧ (σ.2 36 v2) < 2147483648) ∧ ((¬ (σ.2 36 v2) = 0 → fb_V E fb_As_lengthenBranches 7 [.inr 3, .inl v1, .inl (v2 + 1), .inr 999] [] σ Q) ∧ ((σ.2 36 v2) = 0 → fb_V E fb_As_reachesGoal 0 [.inr 3, .inl v2, .inr 999, .inr 999] [] σ (fun r8 s9 => (-2147483648 ≤ r8 ∧ r8 < 2147483648) ∧ ((¬ r8 = 0 → fb_V E fb_As_lengthenBranches 7 [.inr 3, .inl v1, .inl (v2 + 1), .inr 999] [] s9 Q) ∧ (r8 = 0 → fb_V E fb_As_lengthenBranches 7 [.inr 3, .inl v1, .inl (v2 + 1), .inr 999] [] (fb_sg (fb_sm s9 36 v2 1) 105 ((s9.1 105) + 1)) Q)))))) ∧ (¬ (σ.2 17 v2) = 11 → (¬ (σ.2 17 v2) = 12 → fb_V E fb_As_lengthenBranches 7 [.inr 3, .inl v1, .inl (v2 + 1), .inr 999] [] σ Q) ∧ ((σ.2 17 v2) = 12 → (-2147483648 ≤ (σ.2 36 v2) ∧ (σ.2 36 v2) < 2147483648) ∧ ((¬ (σ.2 36 v2) = 0 → fb_V E fb_As_lengthenBranches 7 [.inr 3, .inl v1, .inl (v2 + 1), .inr 999] [] σ Q) ∧ ((σ.2 36 v2) = 0 → fb_V E fb_As_reachesGoal 0 [.inr 3, .inl v2, .inr 999, .inr 999] [] σ (fun r12 s13 => (-2147483648 ≤ r12 ∧ r12 < 2147483648) ∧ ((¬ r12 = 0 → fb_V E fb_As_lengthenBranches 7 [.inr 3, .inl v1, .inl (v2 + 1), .inr 999] [] s13 Q) ∧ (r12 = 0 → fb_V E fb_As_lengthenBranches 7 [.inr 3, .inl v1, .inl (v2 + 1), .inr 999] [] (fb_sg (fb_sm s13 36 v2 1) 105 ((s13.1 105) + 1)) Q))))))))))))) : fb_V E fb_As_lengthenBranches 7 [.inr 3, .inl v1, .inl v2, .inr 999] [] σ Q := by
  refine fb_iload_n dd_As_lengthenBranches_7 rfl (fb_aload_n dd_As_lengthenBranches_8 rfl (by decide) (fb_getR 3 0 dd_As_lengthenBranches_9 rfl rfl rfl (by decide) lk_As_31 (fb_getI (x := σ.1 42) 1 10 dd_As_lengthenBranches_12 rfl rfl rfl (by decide) lk_As_56 rfl ?_)))
  obtain ⟨q1, h⟩ := h
  obtain ⟨q2, h⟩ := h
  refine fb_icmp_ge (tgt := 96) dd_As_lengthenBranches_15 rfl q1 q2 (fun hc => ?_) (fun hc => ?_)
  · replace h := h.1 hc
    refine fb_aload_n dd_As_lengthenBranches_96 rfl (by decide) (fb_getI (x := σ.1 105) 3 9 dd_As_lengthenBranches_97 rfl rfl rfl (by decide) lk_As_42 rfl (fb_iload_n dd_As_lengthenBranches_100 rfl ?_))
    obtain ⟨q3, h⟩ := h
    obtain ⟨q4, h⟩ := h
    refine fb_icmp_le (tgt := 108) dd_As_lengthenBranches_101 rfl q3 q4 (fun hc => ?_) (fun hc => ?_)
    · replace h := h.1 hc
      refine fb_iconst dd_As_lengthenBranches_108 ?_
      exact fb_zret dd_As_lengthenBranches_109 rfl (by decide) h
    · replace h := h.2 hc
      refine fb_iconst dd_As_lengthenBranches_104 (fb_goto (tgt := 109) dd_As_lengthenBranches_105 rfl ?_)
      exact fb_zret dd_As_lengthenBranches_109 rfl (by decide) h
  · replace h := h.2 hc
    refine fb_aload_n dd_As_lengthenBranches_18 rfl (by decide) (fb_getR 3 0 dd_As_lengthenBranches_19 rfl rfl rfl (by decide) lk_As_31 (fb_getR 1 5 dd_As_lengthenBranches_22 rfl rfl rfl (by decide) lk_As_69 (fb_iload_n dd_As_lengthenBranches_25 rfl ?_)))
    obtain ⟨q5, h⟩ := h
    refine fb_ild (x := σ.2 17 v2) dd_As_lengthenBranches_26 rfl q5 rfl (fb_bipush dd_As_lengthenBranches_27 (by decide) ?_)
    obtain ⟨q6, h⟩ := h
    refine fb_icmp_eq (tgt := 46) dd_As_lengthenBranches_29 rfl q6 (by decide) (fun hc => ?_) (fun hc => ?_)
    · replace h := h.1 hc
      refine fb_iconst dd_As_lengthenBranches_46 (fb_goto (tgt := 51) dd_As_lengthenBranches_47 rfl (fb_istore_n dd_As_lengthenBranches_51 rfl rfl rfl (fb_iload_n dd_As_lengthenBranches_52 rfl ?_)))
      refine fb_if_eq (tgt := 90) dd_As_lengthenBranches_53 rfl (by decide) (fun hz => absurd hz (by decide)) (fun _ => ?_)
      refine fb_aload_n dd_As_lengthenBranches_56 rfl (by decide) (fb_getR 3 7 dd_As_lengthenBranches_57 rfl rfl rfl (by decide) lk_As_28 (fb_iload_n dd_As_lengthenBranches_60 rfl (fb_zld (x := σ.2 36 v2) dd_As_lengthenBranches_61 rfl q5 rfl ?_)))
      obtain ⟨q7, h⟩ := h
      refine fb_if_ne (tgt := 90) dd_As_lengthenBranches_62 rfl q7 (fun hc => ?_) (fun hc => ?_)
      · replace h := h.1 hc
        refine fb_iinc dd_As_lengthenBranches_90 rfl rfl rfl (fb_goto (tgt := 7) dd_As_lengthenBranches_93 rfl ?_)
        exact fb_drop (fb_sub_k (fb_sub_k (fb_sub_k (fb_sub_d fb_sub_0)))) h
      · replace h := h.2 hc
        refine fb_aload_n dd_As_lengthenBranches_65 rfl (by decide) (fb_iload_n dd_As_lengthenBranches_66 rfl ?_)
        refine fb_callVi (z := fb_As_reachesGoal) (k := 3) (vs := [.inl v2]) (st := []) dd_As_lengthenBranches_67 vw_As_72 (by decide) ⟨_, rfl⟩ rfl rfl (np := 1) (by decide +kernel) rfl rfl rfl rfl rfl (fb_mono h (fun r8 s9 h => ?_))
        obtain ⟨q10, h⟩ := h
        refine fb_if_ne (tgt := 90) dd_As_lengthenBranches_70 rfl q10 (fun hc => ?_) (fun hc => ?_)
        · replace h := h.1 hc
          refine fb_iinc dd_As_lengthenBranches_90 rfl rfl rfl (fb_goto (tgt := 7) dd_As_lengthenBranches_93 rfl ?_)
          exact fb_drop (fb_sub_k (fb_sub_k (fb_sub_k (fb_sub_d fb_sub_0)))) h
        · replace h := h.2 hc
          refine fb_aload_n dd_As_lengthenBranches_73 rfl (by decide) (fb_getR 3 7 dd_As_lengthenBranches_74 rfl rfl rfl (by decide) lk_As_28 (fb_iload_n dd_As_lengthenBranches_77 rfl (fb_iconst dd_As_lengthenBranches_78 (fb_zst dd_As_lengthenBranches_79 (by decide) rfl q5 (fb_aload_n dd_As_lengthenBranches_80 rfl (by decide) (fb_dup dd_As_lengthenBranches_81 (fb_getI (x := s9.1 105) 3 9 dd_As_lengthenBranches_82 rfl rfl rfl (by decide) lk_As_42 rfl ?_)))))))
          refine fb_iconst dd_As_lengthenBranches_85 (fb_iadd dd_As_lengthenBranches_86 (fb_putI 3 9 dd_As_lengthenBranches_87 rfl rfl rfl (by decide) rfl (by decide +kernel) lk_As_42 (fb_iinc dd_As_lengthenBranches_90 rfl rfl rfl (fb_goto (tgt := 7) dd_As_lengthenBranches_93 rfl ?_))))
          exact fb_drop (fb_sub_k (fb_sub_k (fb_sub_k (fb_sub_d fb_sub_0)))) h
    · replace h := h.2 hc
      refine fb_aload_n dd_As_lengthenBranches_32 rfl (by decide) (fb_getR 3 0 dd_As_lengthenBranches_33 rfl rfl rfl (by decide) lk_As_31 (fb_getR 1 5 dd_As_lengthenBranches_36 rfl rfl rfl (by decide) lk_As_69 (fb_iload_n dd_As_lengthenBranches_39 rfl (fb_ild (x := σ.2 17 v2) dd_As_lengthenBranches_40 rfl q5 rfl (fb_bipush dd_As_lengthenBranches_41 (by decide) ?_)))))
      refine fb_icmp_ne (tgt := 50) dd_As_lengthenBranches_43 rfl q6 (by decide) (fun hc => ?_) (fun hc => ?_)
      · replace h := h.1 hc
        refine fb_iconst dd_As_lengthenBranches_50 (fb_istore_n dd_As_lengthenBranches_51 rfl rfl rfl (fb_iload_n dd_As_lengthenBranches_52 rfl ?_))
        refine fb_if_eq (tgt := 90) dd_As_lengthenBranches_53 rfl (by decide) (fun _ => ?_) (fun hz => absurd hz (by decide))
        refine fb_iinc dd_As_lengthenBranches_90 rfl rfl rfl (fb_goto (tgt := 7) dd_As_lengthenBranches_93 rfl ?_)
        exact fb_drop (fb_sub_k (fb_sub_k (fb_sub_k (fb_sub_d fb_sub_0)))) h
      · replace h := h.2 hc
        refine fb_iconst dd_As_lengthenBranches_46 (fb_goto (tgt := 51) dd_As_lengthenBranches_47 rfl (fb_istore_n dd_As_lengthenBranches_51 rfl rfl rfl (fb_iload_n dd_As_lengthenBranches_52 rfl ?_)))
        refine fb_if_eq (tgt := 90) dd_As_lengthenBranches_53 rfl (by decide) (fun hz => absurd hz (by decide)) (fun _ => ?_)
        refine fb_aload_n dd_As_lengthenBranches_56 rfl (by decide) (fb_getR 3 7 dd_As_lengthenBranches_57 rfl rfl rfl (by decide) lk_As_28 (fb_iload_n dd_As_lengthenBranches_60 rfl (fb_zld (x := σ.2 36 v2) dd_As_lengthenBranches_61 rfl q5 rfl ?_)))
        obtain ⟨q11, h⟩ := h
        refine fb_if_ne (tgt := 90) dd_As_lengthenBranches_62 rfl q11 (fun hc => ?_) (fun hc => ?_)
        · replace h := h.1 hc
          refine fb_iinc dd_As_lengthenBranches_90 rfl rfl rfl (fb_goto (tgt := 7) dd_As_lengthenBranches_93 rfl ?_)
          exact fb_drop (fb_sub_k (fb_sub_k (fb_sub_k (fb_sub_d fb_sub_0)))) h
        · replace h := h.2 hc
          refine fb_aload_n dd_As_lengthenBranches_65 rfl (by decide) (fb_iload_n dd_As_lengthenBranches_66 rfl ?_)
          refine fb_callVi (z := fb_As_reachesGoal) (k := 3) (vs := [.inl v2]) (st := []) dd_As_lengthenBranches_67 vw_As_72 (by decide) ⟨_, rfl⟩ rfl rfl (np := 1) (by decide +kernel) rfl rfl rfl rfl rfl (fb_mono h (fun r12 s13 h => ?_))
          obtain ⟨q14, h⟩ := h
          refine fb_if_ne (tgt := 90) dd_As_lengthenBranches_70 rfl q14 (fun hc => ?_) (fun hc => ?_)
          · replace h := h.1 hc
            refine fb_iinc dd_As_lengthenBranches_90 rfl rfl rfl (fb_goto (tgt := 7) dd_As_lengthenBranches_93 rfl ?_)
            exact fb_drop (fb_sub_k (fb_sub_k (fb_sub_k (fb_sub_d fb_sub_0)))) h
          · replace h := h.2 hc
            refine fb_aload_n dd_As_lengthenBranches_73 rfl (by decide) (fb_getR 3 7 dd_As_lengthenBranches_74 rfl rfl rfl (by decide) lk_As_28 (fb_iload_n dd_As_lengthenBranches_77 rfl (fb_iconst dd_As_lengthenBranches_78 (fb_zst dd_As_lengthenBranches_79 (by decide) rfl q5 (fb_aload_n dd_As_lengthenBranches_80 rfl (by decide) (fb_dup dd_As_lengthenBranches_81 (fb_getI (x := s13.1 105) 3 9 dd_As_lengthenBranches_82 rfl rfl rfl (by decide) lk_As_42 rfl ?_)))))))
            refine fb_iconst dd_As_lengthenBranches_85 (fb_iadd dd_As_lengthenBranches_86 (fb_putI 3 9 dd_As_lengthenBranches_87 rfl rfl rfl (by decide) rfl (by decide +kernel) lk_As_42 (fb_iinc dd_As_lengthenBranches_90 rfl rfl rfl (fb_goto (tgt := 7) dd_As_lengthenBranches_93 rfl ?_))))
            exact fb_drop (fb_sub_k (fb_sub_k (fb_sub_k (fb_sub_d fb_sub_0)))) h

theorem As_reachesGoal_b0 {E : fb_E} {σ : fb_S} {Q : Int → fb_S → Prop} (v1 : Int) (h : (0 ≤ v1 ∧ v1 < 60) ∧ (fb_V E fb_Pr_goalOf 0 [.inr 1, .inl v1] [] σ (fun r2 s3 => (0 ≤ r2 ∧ r2 < 60) ∧ ((-2147483648 ≤ ((s3.2 33 r2) - ((σ.2 34 v1) + 2)) ∧ ((s3.2 33 r2) - ((σ.2 34 v1) + 2)) < 2147483648) ∧ ((((s3.2 33 r2) - ((σ.2 34 v1) + 2)) < (-128) → Q 0 s3) ∧ (¬ ((s3.2 33 r2) - ((σ.2 34 v1) + 2)) < (-128) → (127 < ((s3.2 33 r2) - ((σ.2 34 v1) + 2)) → Q 0 s3) ∧ (¬ 127 < ((s3.2 33 r2) - ((σ.2 34 v1) + 2)) → Q 1 s3))))))) : fb_V E fb_As_reachesGoal 0 [.inr 3, .inl v1, .inr 999, .inr 999] [] σ Q := by
  refine fb_aload_n dd_As_reachesGoal_0 rfl (by decide) (fb_getR 3 5 dd_As_reachesGoal_1 rfl rfl rfl (by decide) lk_As_21 (fb_iload_n dd_As_reachesGoal_4 rfl ?_))
  obtain ⟨q1, h⟩ := h
  refine fb_ild (x := σ.2 34 v1) dd_As_reachesGoal_5 rfl q1 rfl (fb_iconst dd_As_reachesGoal_6 (fb_iadd dd_As_reachesGoal_7 (fb_istore_n dd_As_reachesGoal_8 rfl rfl rfl (fb_aload_n dd_As_reachesGoal_9 rfl (by decide) (fb_getR 3 4 dd_As_reachesGoal_10 rfl rfl rfl (by decide) lk_As_18 (fb_aload_n dd_As_reachesGoal_13 rfl (by decide) (fb_getR 3 0 dd_As_reachesGoal_14 rfl rfl rfl (by decide) lk_As_31 ?_)))))))
  refine fb_iload_n dd_As_reachesGoal_17 rfl ?_
  refine fb_callVi (z := fb_Pr_goalOf) (k := 1) (vs := [.inl v1]) (st := [.inr 33]) dd_As_reachesGoal_18 vw_As_65 (by decide) ⟨_, rfl⟩ rfl rfl (np := 1) (by decide +kernel) rfl rfl rfl rfl rfl (fb_mono h (fun r2 s3 h => ?_))
  obtain ⟨q4, h⟩ := h
  refine fb_ild (x := s3.2 33 r2) dd_As_reachesGoal_21 rfl q4 rfl (fb_iload_n dd_As_reachesGoal_22 rfl (fb_isub dd_As_reachesGoal_23 (fb_istore_n dd_As_reachesGoal_24 rfl rfl rfl (fb_iload_n dd_As_reachesGoal_25 rfl (fb_bipush dd_As_reachesGoal_26 (by decide) ?_)))))
  obtain ⟨q5, h⟩ := h
  refine fb_icmp_lt (tgt := 41) dd_As_reachesGoal_28 rfl q5 (by decide) (fun hc => ?_) (fun hc => ?_)
  · replace h := h.1 hc
    refine fb_iconst dd_As_reachesGoal_41 ?_
    exact fb_zret dd_As_reachesGoal_42 rfl (by decide) h
  · replace h := h.2 hc
    refine fb_iload_n dd_As_reachesGoal_31 rfl (fb_bipush dd_As_reachesGoal_32 (by decide) ?_)
    refine fb_icmp_gt (tgt := 41) dd_As_reachesGoal_34 rfl q5 (by decide) (fun hc => ?_) (fun hc => ?_)
    · replace h := h.1 hc
      refine fb_iconst dd_As_reachesGoal_41 ?_
      exact fb_zret dd_As_reachesGoal_42 rfl (by decide) h
    · replace h := h.2 hc
      refine fb_iconst dd_As_reachesGoal_37 (fb_goto (tgt := 42) dd_As_reachesGoal_38 rfl ?_)
      exact fb_zret dd_As_reachesGoal_42 rfl (by decide) h

theorem As_markLabels_b0 {E : fb_E} {σ : fb_S} {Q : Int → fb_S → Prop} (h : fb_V E fb_Ja_fill 0 [.inr 32, .inl (-1), .inr 999, .inr 999] [] σ (fun _ s2 => fb_V E fb_As_markLabels 10 [.inr 3, .inl 0, .inr 999] [] s2 Q)) : fb_V E fb_As_markLabels 0 [.inr 3, .inr 999, .inr 999] [] σ Q := by
  refine fb_aload_n dd_As_markLabels_0 rfl (by decide) (fb_getR 3 3 dd_As_markLabels_1 rfl rfl rfl (by decide) lk_As_15 (fb_iconst dd_As_markLabels_4 ?_))
  refine fb_callSv (z := fb_Ja_fill) (vs := [.inr 32, .inl (-1)]) (st := []) dd_As_markLabels_5 sw_As_75 (by decide) rfl (np := 2) (by decide +kernel) rfl rfl rfl rfl rfl (fb_mono h (fun r1 s2 h => ?_))
  refine fb_iconst dd_As_markLabels_8 (fb_istore_n dd_As_markLabels_9 rfl rfl rfl ?_)
  exact h
theorem As_markLabels_b10 {E : fb_E} {σ : fb_S} {Q : Int → fb_S → Prop} (v1 : Int) (h : (-2147483648 ≤ v1 ∧ v1 < 2147483648) ∧ ((-2147483648 ≤ (σ.1 42) ∧ (σ.1 42) < 2147483648) ∧ (((σ.1 42) ≤ v1 → Q 0 σ) ∧ (¬ (σ.1 42) ≤ v1 → (0 ≤ v1 ∧ v1 < 60) ∧ ((-2147483648 ≤ (σ.2 33 v1) ∧ (σ.2 33 v1) < 2147483648) ∧ ((500 ≤ (σ.2 33 v1) → fb_V E fb_As_markLabels 10 [.inr 3, .inl (v1 + 1), .inr 999] [] σ Q) ∧ (¬ 500 ≤ (σ.2 33 v1) → (0 ≤ (σ.2 16 v1) ∧ (σ.2 16 v1) < 6) ∧ ((0 ≤ (σ.2 33 v1) ∧ (σ.2 33 v1) < 500) ∧ (fb_V E fb_As_markLabels 10 [.inr 3, .inl (v1 + 1), .inr 999] [] (fb_sm σ 32 (σ.2 33 v1) (((24 * (σ.2 16 v1)) + v1) - (σ.2 14 (σ.2 16 v1)))) Q))))))))) : fb_V E fb_As_markLabels 10 [.inr 3, .inl v1, .inr 999] [] σ Q := by
  refine fb_iload_n dd_As_markLabels_10 rfl (fb_aload_n dd_As_markLabels_11 rfl (by decide) (fb_getR 3 0 dd_As_markLabels_12 rfl rfl rfl (by decide) lk_As_31 (fb_getI (x := σ.1 42) 1 10 dd_As_markLabels_15 rfl rfl rfl (by decide) lk_As_56 rfl ?_)))
  obtain ⟨q1, h⟩ := h
  obtain ⟨q2, h⟩ := h
  refine fb_icmp_ge (tgt := 76) dd_As_markLabels_18 rfl q1 q2 (fun hc => ?_) (fun hc => ?_)
  · replace h := h.1 hc
    exact fb_vret dd_As_markLabels_76 rfl h
  · replace h := h.2 hc
    refine fb_aload_n dd_As_markLabels_21 rfl (by decide) (fb_getR 3 0 dd_As_markLabels_22 rfl rfl rfl (by decide) lk_As_31 (fb_getR 1 4 dd_As_markLabels_25 rfl rfl rfl (by decide) lk_As_81 (fb_iload_n dd_As_markLabels_28 rfl ?_)))
    obtain ⟨q3, h⟩ := h
    refine fb_ild (x := σ.2 16 v1) dd_As_markLabels_29 rfl q3 rfl (fb_istore_n dd_As_markLabels_30 rfl rfl rfl (fb_aload_n dd_As_markLabels_31 rfl (by decide) (fb_getR 3 4 dd_As_markLabels_32 rfl rfl rfl (by decide) lk_As_18 (fb_iload_n dd_As_markLabels_35 rfl (fb_ild (x := σ.2 33 v1) dd_As_markLabels_36 rfl q3 rfl (fb_sipush dd_As_markLabels_37 (by decide) ?_))))))
    obtain ⟨q4, h⟩ := h
    refine fb_icmp_ge (tgt := 70) dd_As_markLabels_40 rfl q4 (by decide) (fun hc => ?_) (fun hc => ?_)
    · replace h := h.1 hc
      refine fb_iinc dd_As_markLabels_70 rfl rfl rfl (fb_goto (tgt := 10) dd_As_markLabels_73 rfl ?_)
      exact fb_drop (fb_sub_k (fb_sub_k (fb_sub_d fb_sub_0))) h
    · replace h := h.2 hc
      refine fb_aload_n dd_As_markLabels_43 rfl (by decide) (fb_getR 3 3 dd_As_markLabels_44 rfl rfl rfl (by decide) lk_As_15 (fb_aload_n dd_As_markLabels_47 rfl (by decide) (fb_getR 3 4 dd_As_markLabels_48 rfl rfl rfl (by decide) lk_As_18 (fb_iload_n dd_As_markLabels_51 rfl (fb_ild (x := σ.2 33 v1) dd_As_markLabels_52 rfl q3 rfl (fb_bipush dd_As_markLabels_53 (by decide) (fb_iload_n dd_As_markLabels_55 rfl ?_)))))))
      refine fb_imul dd_As_markLabels_56 (fb_iload_n dd_As_markLabels_57 rfl (fb_iadd dd_As_markLabels_58 (fb_aload_n dd_As_markLabels_59 rfl (by decide) (fb_getR 3 0 dd_As_markLabels_60 rfl rfl rfl (by decide) lk_As_31 (fb_getR 1 2 dd_As_markLabels_63 rfl rfl rfl (by decide) lk_As_84 (fb_iload_n dd_As_markLabels_66 rfl ?_))))))
      obtain ⟨q5, h⟩ := h
      refine fb_ild (x := σ.2 14 (σ.2 16 v1)) dd_As_markLabels_67 rfl q5 rfl (fb_isub dd_As_markLabels_68 ?_)
      obtain ⟨q6, h⟩ := h
      refine fb_ist dd_As_markLabels_69 rfl q6 (fb_iinc dd_As_markLabels_70 rfl rfl rfl (fb_goto (tgt := 10) dd_As_markLabels_73 rfl ?_))
      exact fb_drop (fb_sub_k (fb_sub_k (fb_sub_d fb_sub_0))) h

theorem As_emitProgram_b0 {E : fb_E} {σ : fb_S} {Q : Int → fb_S → Prop} (h : fb_V E fb_As_emitProgram 7 [.inr 3, .inl 0] [] (fb_sg σ 104 0) Q) : fb_V E fb_As_emitProgram 0 [.inr 3, .inr 999] [] σ Q := by
  refine fb_aload_n dd_As_emitProgram_0 rfl (by decide) (fb_iconst dd_As_emitProgram_1 (fb_putI 3 8 dd_As_emitProgram_2 rfl rfl rfl (by decide) rfl (by decide +kernel) lk_As_87 (fb_iconst dd_As_emitProgram_5 (fb_istore_n dd_As_emitProgram_6 rfl rfl rfl ?_))))
  exact h
theorem As_emitProgram_b7 {E : fb_E} {σ : fb_S} {Q : Int → fb_S → Prop} (v1 : Int) (h : (-2147483648 ≤ v1 ∧ v1 < 2147483648) ∧ ((-2147483648 ≤ (σ.1 42) ∧ (σ.1 42) < 2147483648) ∧ (((σ.1 42) ≤ v1 → Q 0 σ) ∧ (¬ (σ.1 42) ≤ v1 → (0 ≤ v1 ∧ v1 < 60) ∧ ((0 ≤ (σ.2 16 v1) ∧ (σ.2 16 v1) < 6) ∧ ((-2147483648 ≤ (σ.2 14 (σ.2 16 v1)) ∧ (σ.2 14 (σ.2 16 v1)) < 2147483648) ∧ ((v1 = (σ.2 14 (σ.2 16 v1)) → fb_V E fb_As_emitInstruction 0 [.inr 3, .inl v1, .inl (σ.2 18 v1), .inl (σ.2 19 v1), .inl (σ.2 20 v1)] [] (fb_sm (fb_sg (fb_sg σ 107 (σ.2 16 v1)) 106 (-1)) 33 v1 (σ.1 104)) (fun _ s7 => fb_V E fb_As_emitProgram 7 [.inr 3, .inl (v1 + 1)] [] s7 Q)) ∧ (¬ v1 = (σ.2 14 (σ.2 16 v1)) → (-2147483648 ≤ (σ.2 35 v1) ∧ (σ.2 35 v1) < 2147483648) ∧ (((σ.2 35 v1) = 0 → fb_V E fb_As_emitInstruction 0 [.inr 3, .inl v1, .inl (σ.2 18 v1), .inl (σ.2 19 v1), .inl (σ.2 20 v1)] [] (fb_sm (fb_sg σ 107 (σ.2 16 v1)) 33 v1 (σ.1 104)) (fun _ s10 => fb_V E fb_As_emitProgram 7 [.inr 3, .inl (v1 + 1)] [] s10 Q)) ∧ (¬ (σ.2 35 v1) = 0 → fb_V E fb_As_emitInstruction 0 [.inr 3, .inl v1, .inl (σ.2 18 v1), .inl (σ.2 19 v1), .inl (σ.2 20 v1)] [] (fb_sm (fb_sg (fb_sg σ 107 (σ.2 16 v1)) 106 (-1)) 33 v1 (σ.1 104)) (fun _ s12 => fb_V E fb_As_emitProgram 7 [.inr 3, .inl (v1 + 1)] [] s12 Q))))))))))) : fb_V E fb_As_emitProgram 7 [.inr 3, .inl v1] [] σ Q := by
  refine fb_iload_n dd_As_emitProgram_7 rfl (fb_aload_n dd_As_emitProgram_8 rfl (by decide) (fb_getR 3 0 dd_As_emitProgram_9 rfl rfl rfl (by decide) lk_As_31 (fb_getI (x := σ.1 42) 1 10 dd_As_emitProgram_12 rfl rfl rfl (by decide) lk_As_56 rfl ?_)))
  obtain ⟨q1, h⟩ := h
  obtain ⟨q2, h⟩ := h
  refine fb_icmp_ge (tgt := 109) dd_As_emitProgram_15 rfl q1 q2 (fun hc => ?_) (fun hc => ?_)
  · replace h := h.1 hc
    exact fb_vret dd_As_emitProgram_109 rfl h
  · replace h := h.2 hc
    refine fb_aload_n dd_As_emitProgram_18 rfl (by decide) (fb_aload_n dd_As_emitProgram_19 rfl (by decide) (fb_getR 3 0 dd_As_emitProgram_20 rfl rfl rfl (by decide) lk_As_31 (fb_getR 1 4 dd_As_emitProgram_23 rfl rfl rfl (by decide) lk_As_81 (fb_iload_n dd_As_emitProgram_26 rfl ?_))))
    obtain ⟨q3, h⟩ := h
    refine fb_ild (x := σ.2 16 v1) dd_As_emitProgram_27 rfl q3 rfl (fb_putI 3 11 dd_As_emitProgram_28 rfl rfl rfl (by decide) rfl (by decide +kernel) lk_As_90 (fb_iload_n dd_As_emitProgram_31 rfl (fb_aload_n dd_As_emitProgram_32 rfl (by decide) (fb_getR 3 0 dd_As_emitProgram_33 rfl rfl rfl (by decide) lk_As_31 (fb_getR 1 2 dd_As_emitProgram_36 rfl rfl rfl (by decide) lk_As_84 (fb_aload_n dd_As_emitProgram_39 rfl (by decide) (fb_getI (x := σ.2 16 v1) 3 11 dd_As_emitProgram_40 rfl rfl rfl (by decide) lk_As_90 rfl ?_)))))))
    obtain ⟨q4, h⟩ := h
    refine fb_ild (x := σ.2 14 (σ.2 16 v1)) dd_As_emitProgram_43 rfl q4 rfl ?_
    obtain ⟨q5, h⟩ := h
    refine fb_icmp_eq (tgt := 56) dd_As_emitProgram_44 rfl q1 q5 (fun hc => ?_) (fun hc => ?_)
    · replace h := h.1 hc
      refine fb_aload_n dd_As_emitProgram_56 rfl (by decide) (fb_iconst dd_As_emitProgram_57 (fb_putI 3 10 dd_As_emitProgram_58 rfl rfl rfl (by decide) rfl (by decide +kernel) lk_As_93 (fb_aload_n dd_As_emitProgram_61 rfl (by decide) (fb_getR 3 4 dd_As_emitProgram_62 rfl rfl rfl (by decide) lk_As_18 (fb_iload_n dd_As_emitProgram_65 rfl (fb_aload_n dd_As_emitProgram_66 rfl (by decide) (fb_getI (x := σ.1 104) 3 8 dd_As_emitProgram_67 rfl rfl rfl (by decide) lk_As_87 rfl ?_)))))))
      refine fb_ist dd_As_emitProgram_70 rfl q3 (fb_aload_n dd_As_emitProgram_71 rfl (by decide) (fb_iload_n dd_As_emitProgram_72 rfl (fb_aload_n dd_As_emitProgram_73 rfl (by decide) (fb_getR 3 0 dd_As_emitProgram_74 rfl rfl rfl (by decide) lk_As_31 (fb_getR 1 6 dd_As_emitProgram_77 rfl rfl rfl (by decide) lk_As_96 (fb_iload_n dd_As_emitProgram_80 rfl (fb_ild (x := σ.2 18 v1) dd_As_emitProgram_81 rfl q3 rfl ?_)))))))
      refine fb_aload_n dd_As_emitProgram_82 rfl (by decide) (fb_getR 3 0 dd_As_emitProgram_83 rfl rfl rfl (by decide) lk_As_31 (fb_getR 1 7 dd_As_emitProgram_86 rfl rfl rfl (by decide) lk_As_99 (fb_iload_n dd_As_emitProgram_89 rfl (fb_ild (x := σ.2 19 v1) dd_As_emitProgram_90 rfl q3 rfl (fb_aload_n dd_As_emitProgram_91 rfl (by decide) (fb_getR 3 0 dd_As_emitProgram_92 rfl rfl rfl (by decide) lk_As_31 (fb_getR 1 8 dd_As_emitProgram_95 rfl rfl rfl (by decide) lk_As_102 ?_)))))))
      refine fb_iload_n dd_As_emitProgram_98 rfl (fb_ild (x := σ.2 20 v1) dd_As_emitProgram_99 rfl q3 rfl ?_)
      refine fb_callVv (z := fb_As_emitInstruction) (k := 3) (vs := [.inl v1, .inl (σ.2 18 v1), .inl (σ.2 19 v1), .inl (σ.2 20 v1)]) (st := []) dd_As_emitProgram_100 vw_As_105 (by decide) rfl rfl rfl (np := 4) (by decide +kernel) rfl rfl rfl rfl rfl (fb_mono h (fun r6 s7 h => ?_))
      refine fb_iinc dd_As_emitProgram_103 rfl rfl rfl (fb_goto (tgt := 7) dd_As_emitProgram_106 rfl ?_)
      exact h
    · replace h := h.2 hc
      refine fb_aload_n dd_As_emitProgram_47 rfl (by decide) (fb_getR 3 6 dd_As_emitProgram_48 rfl rfl rfl (by decide) lk_As_24 (fb_iload_n dd_As_emitProgram_51 rfl (fb_zld (x := σ.2 35 v1) dd_As_emitProgram_52 rfl q3 rfl ?_)))
      obtain ⟨q8, h⟩ := h
      refine fb_if_eq (tgt := 61) dd_As_emitProgram_53 rfl q8 (fun hc => ?_) (fun hc => ?_)
      · replace h := h.1 hc
        refine fb_aload_n dd_As_emitProgram_61 rfl (by decide) (fb_getR 3 4 dd_As_emitProgram_62 rfl rfl rfl (by decide) lk_As_18 (fb_iload_n dd_As_emitProgram_65 rfl (fb_aload_n dd_As_emitProgram_66 rfl (by decide) (fb_getI (x := σ.1 104) 3 8 dd_As_emitProgram_67 rfl rfl rfl (by decide) lk_As_87 rfl (fb_ist dd_As_emitProgram_70 rfl q3 (fb_aload_n dd_As_emitProgram_71 rfl (by decide) (fb_iload_n dd_As_emitProgram_72 rfl ?_)))))))
        refine fb_aload_n dd_As_emitProgram_73 rfl (by decide) (fb_getR 3 0 dd_As_emitProgram_74 rfl rfl rfl (by decide) lk_As_31 (fb_getR 1 6 dd_As_emitProgram_77 rfl rfl rfl (by decide) lk_As_96 (fb_iload_n dd_As_emitProgram_80 rfl (fb_ild (x := σ.2 18 v1) dd_As_emitProgram_81 rfl q3 rfl (fb_aload_n dd_As_emitProgram_82 rfl (by decide) (fb_getR 3 0 dd_As_emitProgram_83 rfl rfl rfl (by decide) lk_As_31 (fb_getR 1 7 dd_As_emitProgram_86 rfl rfl rfl (by decide) lk_As_99 ?_)))))))
        refine fb_iload_n dd_As_emitProgram_89 rfl (fb_ild (x := σ.2 19 v1) dd_As_emitProgram_90 rfl q3 rfl (fb_aload_n dd_As_emitProgram_91 rfl (by decide) (fb_getR 3 0 dd_As_emitProgram_92 rfl rfl rfl (by decide) lk_As_31 (fb_getR 1 8 dd_As_emitProgram_95 rfl rfl rfl (by decide) lk_As_102 (fb_iload_n dd_As_emitProgram_98 rfl (fb_ild (x := σ.2 20 v1) dd_As_emitProgram_99 rfl q3 rfl ?_))))))
        refine fb_callVv (z := fb_As_emitInstruction) (k := 3) (vs := [.inl v1, .inl (σ.2 18 v1), .inl (σ.2 19 v1), .inl (σ.2 20 v1)]) (st := []) dd_As_emitProgram_100 vw_As_105 (by decide) rfl rfl rfl (np := 4) (by decide +kernel) rfl rfl rfl rfl rfl (fb_mono h (fun r9 s10 h => ?_))
        refine fb_iinc dd_As_emitProgram_103 rfl rfl rfl (fb_goto (tgt := 7) dd_As_emitProgram_106 rfl ?_)
        exact h
      · replace h := h.2 hc
        refine fb_aload_n dd_As_emitProgram_56 rfl (by decide) (fb_iconst dd_As_emitProgram_57 (fb_putI 3 10 dd_As_emitProgram_58 rfl rfl rfl (by decide) rfl (by decide +kernel) lk_As_93 (fb_aload_n dd_As_emitProgram_61 rfl (by decide) (fb_getR 3 4 dd_As_emitProgram_62 rfl rfl rfl (by decide) lk_As_18 (fb_iload_n dd_As_emitProgram_65 rfl (fb_aload_n dd_As_emitProgram_66 rfl (by decide) (fb_getI (x := σ.1 104) 3 8 dd_As_emitProgram_67 rfl rfl rfl (by decide) lk_As_87 rfl ?_)))))))
        refine fb_ist dd_As_emitProgram_70 rfl q3 (fb_aload_n dd_As_emitProgram_71 rfl (by decide) (fb_iload_n dd_As_emitProgram_72 rfl (fb_aload_n dd_As_emitProgram_73 rfl (by decide) (fb_getR 3 0 dd_As_emitProgram_74 rfl rfl rfl (by decide) lk_As_31 (fb_getR 1 6 dd_As_emitProgram_77 rfl rfl rfl (by decide) lk_As_96 (fb_iload_n dd_As_emitProgram_80 rfl (fb_ild (x := σ.2 18 v1) dd_As_emitProgram_81 rfl q3 rfl ?_)))))))
        refine fb_aload_n dd_As_emitProgram_82 rfl (by decide) (fb_getR 3 0 dd_As_emitProgram_83 rfl rfl rfl (by decide) lk_As_31 (fb_getR 1 7 dd_As_emitProgram_86 rfl rfl rfl (by decide) lk_As_99 (fb_iload_n dd_As_emitProgram_89 rfl (fb_ild (x := σ.2 19 v1) dd_As_emitProgram_90 rfl q3 rfl (fb_aload_n dd_As_emitProgram_91 rfl (by decide) (fb_getR 3 0 dd_As_emitProgram_92 rfl rfl rfl (by decide) lk_As_31 (fb_getR 1 8 dd_As_emitProgram_95 rfl rfl rfl (by decide) lk_As_102 ?_)))))))
        refine fb_iload_n dd_As_emitProgram_98 rfl (fb_ild (x := σ.2 20 v1) dd_As_emitProgram_99 rfl q3 rfl ?_)
        refine fb_callVv (z := fb_As_emitInstruction) (k := 3) (vs := [.inl v1, .inl (σ.2 18 v1), .inl (σ.2 19 v1), .inl (σ.2 20 v1)]) (st := []) dd_As_emitProgram_100 vw_As_105 (by decide) rfl rfl rfl (np := 4) (by decide +kernel) rfl rfl rfl rfl rfl (fb_mono h (fun r11 s12 h => ?_))
        refine fb_iinc dd_As_emitProgram_103 rfl rfl rfl (fb_goto (tgt := 7) dd_As_emitProgram_106 rfl ?_)
        exact h

theorem As_emitInstruction_b0 {E : fb_E} {σ : fb_S} {Q : Int → fb_S → Prop} (v1 v2 v3 v4 : Int) (h : (0 ≤ v1 ∧ v1 < 60) ∧ ((-2147483648 ≤ (σ.2 17 v1) ∧ (σ.2 17 v1) < 2147483648) ∧ (((σ.2 17 v1) = 0 → fb_V E fb_As_emitSet 0 [.inr 3, .inl v2, .inl v3, .inr 999] [] σ (fun _ s4 => Q 0 s4)) ∧ ((σ.2 17 v1) = 1 → fb_V E fb_As_emitMove 0 [.inr 3, .inl v2, .inl v3, .inr 999] [] σ (fun _ s6 => Q 0 s6)) ∧ ((σ.2 17 v1) = 2 → fb_V E fb_As_emitAlone 0 [.inr 3, .inl 12] [] σ (fun _ s8 => fb_V E fb_As_emitCombine 0 [.inr 3, .inl 2, .inl v2, .inl v3, .inl v4, .inr 999] [] s8 (fun _ s10 => Q 0 s10))) ∧ ((σ.2 17 v1) = 3 → fb_V E fb_As_emitAlone 0 [.inr 3, .inl 13] [] σ (fun _ s12 => fb_V E fb_As_emitCombine 0 [.inr 3, .inl 3, .inl v2, .inl v3, .inl v4, .inr 999] [] s12 (fun _ s14 => Q 0 s14))) ∧ ((σ.2 17 v1) = 4 → fb_V E fb_As_emitCombine 0 [.inr 3, .inl 4, .inl v2, .inl v3, .inl v4, .inr 999] [] σ (fun _ s16 => Q 0 s16)) ∧ ((σ.2 17 v1) = 5 → fb_V E fb_As_emitCombine 0 [.inr 3, .inl 5, .inl v2, .inl v3, .inl v4, .inr 999] [] σ (fun _ s18 => Q 0 s18)) ∧ ((σ.2 17 v1) = 6 → fb_V E fb_As_emitCombine 0 [.inr 3, .inl 6, .inl v2, .inl v3, .inl v4, .inr 999] [] σ (fun _ s20 => Q 0 s20)) ∧ ((σ.2 17 v1) = 7 → fb_V E fb_As_emitDouble 0 [.inr 3, .inl v2] [] σ (fun _ s22 => Q 0 s22)) ∧ ((σ.2 17 v1) = 8 → fb_V E fb_As_emitIndex 0 [.inr 3, .inl v3, .inl v4] [] σ (fun _ s24 => fb_V E fb_As_emitLoad 0 [.inr 3, .inl v2, .inl v3] [] s24 (fun _ s26 => Q 0 s26))) ∧ ((σ.2 17 v1) = 9 → fb_V E fb_As_emitIndex 0 [.inr 3, .inl v2, .inl v3] [] σ (fun _ s28 => fb_V E fb_As_emitStore 0 [.inr 3, .inl v2, .inl v4] [] s28 (fun _ s30 => Q 0 s30))) ∧ ((σ.2 17 v1) = 10 → fb_V E fb_Pr_goalOf 0 [.inr 1, .inl v1] [] σ (fun r31 s32 => (0 ≤ r31 ∧ r31 < 60) ∧ (fb_V E fb_As_emitJump 0 [.inr 3, .inl 18, .inl (s32.2 33 r31)] [] s32 (fun _ s35 => Q 0 s35)))) ∧ ((σ.2 17 v1) = 11 → fb_V E fb_As_emitZero 0 [.inr 3, .inl v2] [] σ (fun _ s37 => fb_V E fb_As_emitBranch 0 [.inr 3, .inl 14, .inl v1, .inr 999] [] s37 (fun _ s39 => Q 0 s39))) ∧ ((σ.2 17 v1) = 12 → fb_V E fb_As_emitBelow 0 [.inr 3, .inl v2, .inl v3] [] σ (fun _ s41 => fb_V E fb_As_emitBranch 0 [.inr 3, .inl 16, .inl v1, .inr 999] [] s41 (fun _ s43 => Q 0 s43))) ∧ ((σ.2 17 v1) = 13 → fb_V E fb_As_emitCall 0 [.inr 3, .inl v2, .inl v3, .inl v4, .inr 999, .inr 999] [] σ (fun _ s45 => Q 0 s45)) ∧ ((σ.2 17 v1) = 14 → fb_V E fb_As_emitReturn 0 [.inr 3, .inl v2, .inr 999] [] σ (fun _ s47 => Q 0 s47)) ∧ ((¬ (σ.2 17 v1) = 0 ∧ ¬ (σ.2 17 v1) = 1 ∧ ¬ (σ.2 17 v1) = 2 ∧ ¬ (σ.2 17 v1) = 3 ∧ ¬ (σ.2 17 v1) = 4 ∧ ¬ (σ.2 17 v1) = 5 ∧ ¬ (σ.2 17 v1) = 6 ∧ ¬ (σ.2 17 v1) = 7 ∧ ¬ (σ.2 17 v1) = 8 ∧ ¬ (σ.2 17 v1) = 9 ∧ ¬ (σ.2 17 v1) = 10 ∧ ¬ (σ.2 17 v1) = 11 ∧ ¬ (σ.2 17 v1) = 12 ∧ ¬ (σ.2 17 v1) = 13 ∧ ¬ (σ.2 17 v1) = 14) → fb_V E fb_As_emitOut 0 [.inr 3, .inl v2, .inr 999] [] σ (fun _ s49 => Q 0 s49))))) : fb_V E fb_As_emitInstruction 0 [.inr 3, .inl v1, .inl v2, .inl v3, .inl v4] [] σ Q := by
  refine fb_aload_n dd_As_emitInstruction_0 rfl (by decide) (fb_getR 3 0 dd_As_emitInstruction_1 rfl rfl rfl (by decide) lk_As_31 (fb_getR 1 5 dd_As_emitInstruction_4 rfl rfl rfl (by decide) lk_As_69 (fb_iload_n dd_As_emitInstruction_7 rfl ?_)))
  obtain ⟨q1, h⟩ := h
  refine fb_ild (x := σ.2 17 v1) dd_As_emitInstruction_8 rfl q1 rfl ?_
  obtain ⟨q2, h⟩ := h
  rcases (show ((σ.2 17 v1) = 0) ∨ ((σ.2 17 v1) = 1) ∨ ((σ.2 17 v1) = 2) ∨ ((σ.2 17 v1) = 3) ∨ ((σ.2 17 v1) = 4) ∨ ((σ.2 17 v1) = 5) ∨ ((σ.2 17 v1) = 6) ∨ ((σ.2 17 v1) = 7) ∨ ((σ.2 17 v1) = 8) ∨ ((σ.2 17 v1) = 9) ∨ ((σ.2 17 v1) = 10) ∨ ((σ.2 17 v1) = 11) ∨ ((σ.2 17 v1) = 12) ∨ ((σ.2 17 v1) = 13) ∨ ((σ.2 17 v1) = 14) ∨ (¬ (σ.2 17 v1) = 0 ∧ ¬ (σ.2 17 v1) = 1 ∧ ¬ (σ.2 17 v1) = 2 ∧ ¬ (σ.2 17 v1) = 3 ∧ ¬ (σ.2 17 v1) = 4 ∧ ¬ (σ.2 17 v1) = 5 ∧ ¬ (σ.2 17 v1) = 6 ∧ ¬ (σ.2 17 v1) = 7 ∧ ¬ (σ.2 17 v1) = 8 ∧ ¬ (σ.2 17 v1) = 9 ∧ ¬ (σ.2 17 v1) = 10 ∧ ¬ (σ.2 17 v1) = 11 ∧ ¬ (σ.2 17 v1) = 12 ∧ ¬ (σ.2 17 v1) = 13 ∧ ¬ (σ.2 17 v1) = 14) by omega) with hc | hc | hc | hc | hc | hc | hc | hc | hc | hc | hc | hc | hc | hc | hc | hc
  · replace h := h.1 hc
    refine fb_tsIn (tgt := 84) (75) dd_As_emitInstruction_9 q2 (by omega) (by omega) (by rw [hc]; rfl) rfl ?_
    refine fb_aload_n dd_As_emitInstruction_84 rfl (by decide) (fb_iload_n dd_As_emitInstruction_85 rfl (fb_iload_n dd_As_emitInstruction_86 rfl ?_))
    refine fb_callVv (z := fb_As_emitSet) (k := 3) (vs := [.inl v2, .inl v3]) (st := []) dd_As_emitInstruction_87 vw_As_109 (by decide) rfl rfl rfl (np := 2) (by decide +kernel) rfl rfl rfl rfl rfl (fb_mono h (fun r3 s4 h => ?_))
    refine fb_goto (tgt := 292) dd_As_emitInstruction_90 rfl ?_
    exact fb_vret dd_As_emitInstruction_292 rfl h
  · replace h := h.2.1 hc
    refine fb_tsIn (tgt := 93) (84) dd_As_emitInstruction_9 q2 (by omega) (by omega) (by rw [hc]; rfl) rfl ?_
    refine fb_aload_n dd_As_emitInstruction_93 rfl (by decide) (fb_iload_n dd_As_emitInstruction_94 rfl (fb_iload_n dd_As_emitInstruction_95 rfl ?_))
    refine fb_callVv (z := fb_As_emitMove) (k := 3) (vs := [.inl v2, .inl v3]) (st := []) dd_As_emitInstruction_96 vw_As_113 (by decide) rfl rfl rfl (np := 2) (by decide +kernel) rfl rfl rfl rfl rfl (fb_mono h (fun r5 s6 h => ?_))
    refine fb_goto (tgt := 292) dd_As_emitInstruction_99 rfl ?_
    exact fb_vret dd_As_emitInstruction_292 rfl h
  · replace h := h.2.2.1 hc
    refine fb_tsIn (tgt := 102) (93) dd_As_emitInstruction_9 q2 (by omega) (by omega) (by rw [hc]; rfl) rfl ?_
    refine fb_aload_n dd_As_emitInstruction_102 rfl (by decide) (fb_bipush dd_As_emitInstruction_103 (by decide) ?_)
    refine fb_callVv (z := fb_As_emitAlone) (k := 3) (vs := [.inl 12]) (st := []) dd_As_emitInstruction_105 vw_As_116 (by decide) rfl rfl rfl (np := 1) (by decide +kernel) rfl rfl rfl rfl rfl (fb_mono h (fun r7 s8 h => ?_))
    refine fb_aload_n dd_As_emitInstruction_108 rfl (by decide) (fb_iconst dd_As_emitInstruction_109 (fb_iload_n dd_As_emitInstruction_110 rfl (fb_iload_n dd_As_emitInstruction_111 rfl (fb_iload dd_As_emitInstruction_112 rfl ?_))))
    refine fb_callVv (z := fb_As_emitCombine) (k := 3) (vs := [.inl 2, .inl v2, .inl v3, .inl v4]) (st := []) dd_As_emitInstruction_114 vw_As_120 (by decide) rfl rfl rfl (np := 4) (by decide +kernel) rfl rfl rfl rfl rfl (fb_mono h (fun r9 s10 h => ?_))
    refine fb_goto (tgt := 292) dd_As_emitInstruction_117 rfl ?_
    exact fb_vret dd_As_emitInstruction_292 rfl h
  · replace h := h.2.2.2.1 hc
    refine fb_tsIn (tgt := 120) (111) dd_As_emitInstruction_9 q2 (by omega) (by omega) (by rw [hc]; rfl) rfl ?_
    refine fb_aload_n dd_As_emitInstruction_120 rfl (by decide) (fb_bipush dd_As_emitInstruction_121 (by decide) ?_)
    refine fb_callVv (z := fb_As_emitAlone) (k := 3) (vs := [.inl 13]) (st := []) dd_As_emitInstruction_123 vw_As_116 (by decide) rfl rfl rfl (np := 1) (by decide +kernel) rfl rfl rfl rfl rfl (fb_mono h (fun r11 s12 h => ?_))
    refine fb_aload_n dd_As_emitInstruction_126 rfl (by decide) (fb_iconst dd_As_emitInstruction_127 (fb_iload_n dd_As_emitInstruction_128 rfl (fb_iload_n dd_As_emitInstruction_129 rfl (fb_iload dd_As_emitInstruction_130 rfl ?_))))
    refine fb_callVv (z := fb_As_emitCombine) (k := 3) (vs := [.inl 3, .inl v2, .inl v3, .inl v4]) (st := []) dd_As_emitInstruction_132 vw_As_120 (by decide) rfl rfl rfl (np := 4) (by decide +kernel) rfl rfl rfl rfl rfl (fb_mono h (fun r13 s14 h => ?_))
    refine fb_goto (tgt := 292) dd_As_emitInstruction_135 rfl ?_
    exact fb_vret dd_As_emitInstruction_292 rfl h
  · replace h := h.2.2.2.2.1 hc
    refine fb_tsIn (tgt := 138) (129) dd_As_emitInstruction_9 q2 (by omega) (by omega) (by rw [hc]; rfl) rfl ?_
    refine fb_aload_n dd_As_emitInstruction_138 rfl (by decide) (fb_iconst dd_As_emitInstruction_139 (fb_iload_n dd_As_emitInstruction_140 rfl (fb_iload_n dd_As_emitInstruction_141 rfl (fb_iload dd_As_emitInstruction_142 rfl ?_))))
    refine fb_callVv (z := fb_As_emitCombine) (k := 3) (vs := [.inl 4, .inl v2, .inl v3, .inl v4]) (st := []) dd_As_emitInstruction_144 vw_As_120 (by decide) rfl rfl rfl (np := 4) (by decide +kernel) rfl rfl rfl rfl rfl (fb_mono h (fun r15 s16 h => ?_))
    refine fb_goto (tgt := 292) dd_As_emitInstruction_147 rfl ?_
    exact fb_vret dd_As_emitInstruction_292 rfl h
  · replace h := h.2.2.2.2.2.1 hc
    refine fb_tsIn (tgt := 150) (141) dd_As_emitInstruction_9 q2 (by omega) (by omega) (by rw [hc]; rfl) rfl ?_
    refine fb_aload_n dd_As_emitInstruction_150 rfl (by decide) (fb_iconst dd_As_emitInstruction_151 (fb_iload_n dd_As_emitInstruction_152 rfl (fb_iload_n dd_As_emitInstruction_153 rfl (fb_iload dd_As_emitInstruction_154 rfl ?_))))
    refine fb_callVv (z := fb_As_emitCombine) (k := 3) (vs := [.inl 5, .inl v2, .inl v3, .inl v4]) (st := []) dd_As_emitInstruction_156 vw_As_120 (by decide) rfl rfl rfl (np := 4) (by decide +kernel) rfl rfl rfl rfl rfl (fb_mono h (fun r17 s18 h => ?_))
    refine fb_goto (tgt := 292) dd_As_emitInstruction_159 rfl ?_
    exact fb_vret dd_As_emitInstruction_292 rfl h
  · replace h := h.2.2.2.2.2.2.1 hc
    refine fb_tsIn (tgt := 162) (153) dd_As_emitInstruction_9 q2 (by omega) (by omega) (by rw [hc]; rfl) rfl ?_
    refine fb_aload_n dd_As_emitInstruction_162 rfl (by decide) (fb_bipush dd_As_emitInstruction_163 (by decide) (fb_iload_n dd_As_emitInstruction_165 rfl (fb_iload_n dd_As_emitInstruction_166 rfl (fb_iload dd_As_emitInstruction_167 rfl ?_))))
    refine fb_callVv (z := fb_As_emitCombine) (k := 3) (vs := [.inl 6, .inl v2, .inl v3, .inl v4]) (st := []) dd_As_emitInstruction_169 vw_As_120 (by decide) rfl rfl rfl (np := 4) (by decide +kernel) rfl rfl rfl rfl rfl (fb_mono h (fun r19 s20 h => ?_))
    refine fb_goto (tgt := 292) dd_As_emitInstruction_172 rfl ?_
    exact fb_vret dd_As_emitInstruction_292 rfl h
  · replace h := h.2.2.2.2.2.2.2.1 hc
    refine fb_tsIn (tgt := 175) (166) dd_As_emitInstruction_9 q2 (by omega) (by omega) (by rw [hc]; rfl) rfl ?_
    refine fb_aload_n dd_As_emitInstruction_175 rfl (by decide) (fb_iload_n dd_As_emitInstruction_176 rfl ?_)
    refine fb_callVv (z := fb_As_emitDouble) (k := 3) (vs := [.inl v2]) (st := []) dd_As_emitInstruction_177 vw_As_123 (by decide) rfl rfl rfl (np := 1) (by decide +kernel) rfl rfl rfl rfl rfl (fb_mono h (fun r21 s22 h => ?_))
    refine fb_goto (tgt := 292) dd_As_emitInstruction_180 rfl ?_
    exact fb_vret dd_As_emitInstruction_292 rfl h
  · replace h := h.2.2.2.2.2.2.2.2.1 hc
    refine fb_tsIn (tgt := 183) (174) dd_As_emitInstruction_9 q2 (by omega) (by omega) (by rw [hc]; rfl) rfl ?_
    refine fb_aload_n dd_As_emitInstruction_183 rfl (by decide) (fb_iload_n dd_As_emitInstruction_184 rfl (fb_iload dd_As_emitInstruction_185 rfl ?_))
    refine fb_callVv (z := fb_As_emitIndex) (k := 3) (vs := [.inl v3, .inl v4]) (st := []) dd_As_emitInstruction_187 vw_As_126 (by decide) rfl rfl rfl (np := 2) (by decide +kernel) rfl rfl rfl rfl rfl (fb_mono h (fun r23 s24 h => ?_))
    refine fb_aload_n dd_As_emitInstruction_190 rfl (by decide) (fb_iload_n dd_As_emitInstruction_191 rfl (fb_iload_n dd_As_emitInstruction_192 rfl ?_))
    refine fb_callVv (z := fb_As_emitLoad) (k := 3) (vs := [.inl v2, .inl v3]) (st := []) dd_As_emitInstruction_193 vw_As_129 (by decide) rfl rfl rfl (np := 2) (by decide +kernel) rfl rfl rfl rfl rfl (fb_mono h (fun r25 s26 h => ?_))
    refine fb_goto (tgt := 292) dd_As_emitInstruction_196 rfl ?_
    exact fb_vret dd_As_emitInstruction_292 rfl h
  · replace h := h.2.2.2.2.2.2.2.2.2.1 hc
    refine fb_tsIn (tgt := 199) (190) dd_As_emitInstruction_9 q2 (by omega) (by omega) (by rw [hc]; rfl) rfl ?_
    refine fb_aload_n dd_As_emitInstruction_199 rfl (by decide) (fb_iload_n dd_As_emitInstruction_200 rfl (fb_iload_n dd_As_emitInstruction_201 rfl ?_))
    refine fb_callVv (z := fb_As_emitIndex) (k := 3) (vs := [.inl v2, .inl v3]) (st := []) dd_As_emitInstruction_202 vw_As_126 (by decide) rfl rfl rfl (np := 2) (by decide +kernel) rfl rfl rfl rfl rfl (fb_mono h (fun r27 s28 h => ?_))
    refine fb_aload_n dd_As_emitInstruction_205 rfl (by decide) (fb_iload_n dd_As_emitInstruction_206 rfl (fb_iload dd_As_emitInstruction_207 rfl ?_))
    refine fb_callVv (z := fb_As_emitStore) (k := 3) (vs := [.inl v2, .inl v4]) (st := []) dd_As_emitInstruction_209 vw_As_132 (by decide) rfl rfl rfl (np := 2) (by decide +kernel) rfl rfl rfl rfl rfl (fb_mono h (fun r29 s30 h => ?_))
    refine fb_goto (tgt := 292) dd_As_emitInstruction_212 rfl ?_
    exact fb_vret dd_As_emitInstruction_292 rfl h
  · replace h := h.2.2.2.2.2.2.2.2.2.2.1 hc
    refine fb_tsIn (tgt := 215) (206) dd_As_emitInstruction_9 q2 (by omega) (by omega) (by rw [hc]; rfl) rfl ?_
    refine fb_aload_n dd_As_emitInstruction_215 rfl (by decide) (fb_bipush dd_As_emitInstruction_216 (by decide) (fb_aload_n dd_As_emitInstruction_218 rfl (by decide) (fb_getR 3 4 dd_As_emitInstruction_219 rfl rfl rfl (by decide) lk_As_18 (fb_aload_n dd_As_emitInstruction_222 rfl (by decide) (fb_getR 3 0 dd_As_emitInstruction_223 rfl rfl rfl (by decide) lk_As_31 (fb_iload_n dd_As_emitInstruction_226 rfl ?_))))))
    refine fb_callVi (z := fb_Pr_goalOf) (k := 1) (vs := [.inl v1]) (st := [.inr 33, .inl 18, .inr 3]) dd_As_emitInstruction_227 vw_As_65 (by decide) ⟨_, rfl⟩ rfl rfl (np := 1) (by decide +kernel) rfl rfl rfl rfl rfl (fb_mono h (fun r31 s32 h => ?_))
    obtain ⟨q33, h⟩ := h
    refine fb_ild (x := s32.2 33 r31) dd_As_emitInstruction_230 rfl q33 rfl ?_
    refine fb_callVv (z := fb_As_emitJump) (k := 3) (vs := [.inl 18, .inl (s32.2 33 r31)]) (st := []) dd_As_emitInstruction_231 vw_As_135 (by decide) rfl rfl rfl (np := 2) (by decide +kernel) rfl rfl rfl rfl rfl (fb_mono h (fun r34 s35 h => ?_))
    refine fb_goto (tgt := 292) dd_As_emitInstruction_234 rfl ?_
    exact fb_vret dd_As_emitInstruction_292 rfl h
  · replace h := h.2.2.2.2.2.2.2.2.2.2.2.1 hc
    refine fb_tsIn (tgt := 237) (228) dd_As_emitInstruction_9 q2 (by omega) (by omega) (by rw [hc]; rfl) rfl ?_
    refine fb_aload_n dd_As_emitInstruction_237 rfl (by decide) (fb_iload_n dd_As_emitInstruction_238 rfl ?_)
    refine fb_callVv (z := fb_As_emitZero) (k := 3) (vs := [.inl v2]) (st := []) dd_As_emitInstruction_239 vw_As_138 (by decide) rfl rfl rfl (np := 1) (by decide +kernel) rfl rfl rfl rfl rfl (fb_mono h (fun r36 s37 h => ?_))
    refine fb_aload_n dd_As_emitInstruction_242 rfl (by decide) (fb_bipush dd_As_emitInstruction_243 (by decide) (fb_iload_n dd_As_emitInstruction_245 rfl ?_))
    refine fb_callVv (z := fb_As_emitBranch) (k := 3) (vs := [.inl 14, .inl v1]) (st := []) dd_As_emitInstruction_246 vw_As_141 (by decide) rfl rfl rfl (np := 2) (by decide +kernel) rfl rfl rfl rfl rfl (fb_mono h (fun r38 s39 h => ?_))
    refine fb_goto (tgt := 292) dd_As_emitInstruction_249 rfl ?_
    exact fb_vret dd_As_emitInstruction_292 rfl h
  · replace h := h.2.2.2.2.2.2.2.2.2.2.2.2.1 hc
    refine fb_tsIn (tgt := 252) (243) dd_As_emitInstruction_9 q2 (by omega) (by omega) (by rw [hc]; rfl) rfl ?_
    refine fb_aload_n dd_As_emitInstruction_252 rfl (by decide) (fb_iload_n dd_As_emitInstruction_253 rfl (fb_iload_n dd_As_emitInstruction_254 rfl ?_))
    refine fb_callVv (z := fb_As_emitBelow) (k := 3) (vs := [.inl v2, .inl v3]) (st := []) dd_As_emitInstruction_255 vw_As_144 (by decide) rfl rfl rfl (np := 2) (by decide +kernel) rfl rfl rfl rfl rfl (fb_mono h (fun r40 s41 h => ?_))
    refine fb_aload_n dd_As_emitInstruction_258 rfl (by decide) (fb_bipush dd_As_emitInstruction_259 (by decide) (fb_iload_n dd_As_emitInstruction_261 rfl ?_))
    refine fb_callVv (z := fb_As_emitBranch) (k := 3) (vs := [.inl 16, .inl v1]) (st := []) dd_As_emitInstruction_262 vw_As_141 (by decide) rfl rfl rfl (np := 2) (by decide +kernel) rfl rfl rfl rfl rfl (fb_mono h (fun r42 s43 h => ?_))
    refine fb_goto (tgt := 292) dd_As_emitInstruction_265 rfl ?_
    exact fb_vret dd_As_emitInstruction_292 rfl h
  · replace h := h.2.2.2.2.2.2.2.2.2.2.2.2.2.1 hc
    refine fb_tsIn (tgt := 268) (259) dd_As_emitInstruction_9 q2 (by omega) (by omega) (by rw [hc]; rfl) rfl ?_
    refine fb_aload_n dd_As_emitInstruction_268 rfl (by decide) (fb_iload_n dd_As_emitInstruction_269 rfl (fb_iload_n dd_As_emitInstruction_270 rfl (fb_iload dd_As_emitInstruction_271 rfl ?_)))
    refine fb_callVv (z := fb_As_emitCall) (k := 3) (vs := [.inl v2, .inl v3, .inl v4]) (st := []) dd_As_emitInstruction_273 vw_As_147 (by decide) rfl rfl rfl (np := 3) (by decide +kernel) rfl rfl rfl rfl rfl (fb_mono h (fun r44 s45 h => ?_))
    refine fb_goto (tgt := 292) dd_As_emitInstruction_276 rfl ?_
    exact fb_vret dd_As_emitInstruction_292 rfl h
  · replace h := h.2.2.2.2.2.2.2.2.2.2.2.2.2.2.1 hc
    refine fb_tsIn (tgt := 279) (270) dd_As_emitInstruction_9 q2 (by omega) (by omega) (by rw [hc]; rfl) rfl ?_
    refine fb_aload_n dd_As_emitInstruction_279 rfl (by decide) (fb_iload_n dd_As_emitInstruction_280 rfl ?_)
    refine fb_callVv (z := fb_As_emitReturn) (k := 3) (vs := [.inl v2]) (st := []) dd_As_emitInstruction_281 vw_As_151 (by decide) rfl rfl rfl (np := 1) (by decide +kernel) rfl rfl rfl rfl rfl (fb_mono h (fun r46 s47 h => ?_))
    refine fb_goto (tgt := 292) dd_As_emitInstruction_284 rfl ?_
    exact fb_vret dd_As_emitInstruction_292 rfl h
  · replace h := h.2.2.2.2.2.2.2.2.2.2.2.2.2.2.2 hc
    refine fb_tsOut (tgt := 287) dd_As_emitInstruction_9 q2 (by omega) rfl ?_
    refine fb_aload_n dd_As_emitInstruction_287 rfl (by decide) (fb_iload_n dd_As_emitInstruction_288 rfl ?_)
    refine fb_callVv (z := fb_As_emitOut) (k := 3) (vs := [.inl v2]) (st := []) dd_As_emitInstruction_289 vw_As_154 (by decide) rfl rfl rfl (np := 1) (by decide +kernel) rfl rfl rfl rfl rfl (fb_mono h (fun r48 s49 h => ?_))
    exact fb_vret dd_As_emitInstruction_292 rfl h

theorem As_emitSet_b0 {E : fb_E} {σ : fb_S} {Q : Int → fb_S → Prop} (v1 v2 : Int) (h : fb_V E fb_As_emitSet 2 [.inr 3, .inl v1, .inl v2, .inl 0] [] σ Q) : fb_V E fb_As_emitSet 0 [.inr 3, .inl v1, .inl v2, .inr 999] [] σ Q := by
  refine fb_iconst dd_As_emitSet_0 (fb_istore_n dd_As_emitSet_1 rfl rfl rfl ?_)
  exact h
theorem As_emitSet_b2 {E : fb_E} {σ : fb_S} {Q : Int → fb_S → Prop} (v1 v2 v3 : Int) (h : fb_V E fb_Pr_sizeOf 0 [.inr 1, .inl (σ.1 107), .inl v1, .inr 999] [] σ (fun r1 s2 => (-2147483648 ≤ v3 ∧ v3 < 2147483648) ∧ ((-2147483648 ≤ r1 ∧ r1 < 2147483648) ∧ ((r1 ≤ v3 → Q 0 s2) ∧ (¬ r1 ≤ v3 → (-2147483648 ≤ v2 ∧ v2 < 2147483648) ∧ ((0 ≤ (8 * v3) ∧ (8 * v3) < 31) ∧ (fb_V E fb_As_emit 0 [.inr 3, .inl 0, .inl (256 + ((v2 / 2 ^ ((8 * v3) : Int).toNat) % 256)), .inr 999] [] s2 (fun _ s8 => fb_V E fb_As_part 0 [.inr 3, .inl v1, .inl v3] [] s8 (fun r9 s10 => fb_V E fb_As_emit 0 [.inr 3, .inl 1, .inl r9, .inr 999] [] s10 (fun _ s12 => fb_V E fb_As_emitSet 2 [.inr 3, .inl v1, .inl v2, .inl (v3 + 1)] [] s12 Q)))))))))) : fb_V E fb_As_emitSet 2 [.inr 3, .inl v1, .inl v2, .inl v3] [] σ Q := by
  refine fb_iload_n dd_As_emitSet_2 rfl (fb_aload_n dd_As_emitSet_3 rfl (by decide) (fb_getR 3 0 dd_As_emitSet_4 rfl rfl rfl (by decide) lk_As_31 (fb_aload_n dd_As_emitSet_7 rfl (by decide) (fb_getI (x := σ.1 107) 3 11 dd_As_emitSet_8 rfl rfl rfl (by decide) lk_As_90 rfl (fb_iload_n dd_As_emitSet_11 rfl ?_)))))
  refine fb_callVi (z := fb_Pr_sizeOf) (k := 1) (vs := [.inl (σ.1 107), .inl v1]) (st := [.inl v3]) dd_As_emitSet_12 vw_As_157 (by decide) ⟨_, rfl⟩ rfl rfl (np := 2) (by decide +kernel) rfl rfl rfl rfl rfl (fb_mono h (fun r1 s2 h => ?_))
  obtain ⟨q3, h⟩ := h
  obtain ⟨q4, h⟩ := h
  refine fb_icmp_ge (tgt := 54) dd_As_emitSet_15 rfl q3 q4 (fun hc => ?_) (fun hc => ?_)
  · replace h := h.1 hc
    exact fb_vret dd_As_emitSet_54 rfl h
  · replace h := h.2 hc
    refine fb_aload_n dd_As_emitSet_18 rfl (by decide) (fb_iconst dd_As_emitSet_19 (fb_sipush dd_As_emitSet_20 (by decide) (fb_iload_n dd_As_emitSet_23 rfl (fb_bipush dd_As_emitSet_24 (by decide) (fb_iload_n dd_As_emitSet_26 rfl (fb_imul dd_As_emitSet_27 ?_))))))
    obtain ⟨q5, h⟩ := h
    obtain ⟨q6, h⟩ := h
    refine fb_ishr dd_As_emitSet_28 q5 q6 (fb_sipush dd_As_emitSet_29 (by decide) (fb_iandM 8 (p := 256) (by decide) (by decide) (by decide) dd_As_emitSet_32 (fb_iadd dd_As_emitSet_33 ?_)))
    refine fb_callVv (z := fb_As_emit) (k := 3) (vs := [.inl 0, .inl (256 + ((v2 / 2 ^ ((8 * v3) : Int).toNat) % 256))]) (st := []) dd_As_emitSet_34 vw_As_161 (by decide) rfl rfl rfl (np := 2) (by decide +kernel) rfl rfl rfl rfl rfl (fb_mono h (fun r7 s8 h => ?_))
    refine fb_aload_n dd_As_emitSet_37 rfl (by decide) (fb_iconst dd_As_emitSet_38 (fb_aload_n dd_As_emitSet_39 rfl (by decide) (fb_iload_n dd_As_emitSet_40 rfl (fb_iload_n dd_As_emitSet_41 rfl ?_))))
    refine fb_callVi (z := fb_As_part) (k := 3) (vs := [.inl v1, .inl v3]) (st := [.inl 1, .inr 3]) dd_As_emitSet_42 vw_As_164 (by decide) ⟨_, rfl⟩ rfl rfl (np := 2) (by decide +kernel) rfl rfl rfl rfl rfl (fb_mono h (fun r9 s10 h => ?_))
    refine fb_callVv (z := fb_As_emit) (k := 3) (vs := [.inl 1, .inl r9]) (st := []) dd_As_emitSet_45 vw_As_161 (by decide) rfl rfl rfl (np := 2) (by decide +kernel) rfl rfl rfl rfl rfl (fb_mono h (fun r11 s12 h => ?_))
    refine fb_iinc dd_As_emitSet_48 rfl rfl rfl (fb_goto (tgt := 2) dd_As_emitSet_51 rfl ?_)
    exact h

theorem As_emitMove_b0 {E : fb_E} {σ : fb_S} {Q : Int → fb_S → Prop} (v1 v2 : Int) (h : fb_V E fb_As_emitMove 2 [.inr 3, .inl v1, .inl v2, .inl 0] [] σ Q) : fb_V E fb_As_emitMove 0 [.inr 3, .inl v1, .inl v2, .inr 999] [] σ Q := by
  refine fb_iconst dd_As_emitMove_0 (fb_istore_n dd_As_emitMove_1 rfl rfl rfl ?_)
  exact h
theorem As_emitMove_b2 {E : fb_E} {σ : fb_S} {Q : Int → fb_S → Prop} (v1 v2 v3 : Int) (h : fb_V E fb_Pr_sizeOf 0 [.inr 1, .inl (σ.1 107), .inl v1, .inr 999] [] σ (fun r1 s2 => (-2147483648 ≤ v3 ∧ v3 < 2147483648) ∧ ((-2147483648 ≤ r1 ∧ r1 < 2147483648) ∧ ((r1 ≤ v3 → Q 0 s2) ∧ (¬ r1 ≤ v3 → fb_V E fb_As_part 0 [.inr 3, .inl v2, .inl v3] [] s2 (fun r5 s6 => fb_V E fb_As_emit 0 [.inr 3, .inl 0, .inl r5, .inr 999] [] s6 (fun _ s8 => fb_V E fb_As_part 0 [.inr 3, .inl v1, .inl v3] [] s8 (fun r9 s10 => fb_V E fb_As_emit 0 [.inr 3, .inl 1, .inl r9, .inr 999] [] s10 (fun _ s12 => fb_V E fb_As_emitMove 2 [.inr 3, .inl v1, .inl v2, .inl (v3 + 1)] [] s12 Q))))))))) : fb_V E fb_As_emitMove 2 [.inr 3, .inl v1, .inl v2, .inl v3] [] σ Q := by
  refine fb_iload_n dd_As_emitMove_2 rfl (fb_aload_n dd_As_emitMove_3 rfl (by decide) (fb_getR 3 0 dd_As_emitMove_4 rfl rfl rfl (by decide) lk_As_31 (fb_aload_n dd_As_emitMove_7 rfl (by decide) (fb_getI (x := σ.1 107) 3 11 dd_As_emitMove_8 rfl rfl rfl (by decide) lk_As_90 rfl (fb_iload_n dd_As_emitMove_11 rfl ?_)))))
  refine fb_callVi (z := fb_Pr_sizeOf) (k := 1) (vs := [.inl (σ.1 107), .inl v1]) (st := [.inl v3]) dd_As_emitMove_12 vw_As_157 (by decide) ⟨_, rfl⟩ rfl rfl (np := 2) (by decide +kernel) rfl rfl rfl rfl rfl (fb_mono h (fun r1 s2 h => ?_))
  obtain ⟨q3, h⟩ := h
  obtain ⟨q4, h⟩ := h
  refine fb_icmp_ge (tgt := 46) dd_As_emitMove_15 rfl q3 q4 (fun hc => ?_) (fun hc => ?_)
  · replace h := h.1 hc
    exact fb_vret dd_As_emitMove_46 rfl h
  · replace h := h.2 hc
    refine fb_aload_n dd_As_emitMove_18 rfl (by decide) (fb_iconst dd_As_emitMove_19 (fb_aload_n dd_As_emitMove_20 rfl (by decide) (fb_iload_n dd_As_emitMove_21 rfl (fb_iload_n dd_As_emitMove_22 rfl ?_))))
    refine fb_callVi (z := fb_As_part) (k := 3) (vs := [.inl v2, .inl v3]) (st := [.inl 0, .inr 3]) dd_As_emitMove_23 vw_As_164 (by decide) ⟨_, rfl⟩ rfl rfl (np := 2) (by decide +kernel) rfl rfl rfl rfl rfl (fb_mono h (fun r5 s6 h => ?_))
    refine fb_callVv (z := fb_As_emit) (k := 3) (vs := [.inl 0, .inl r5]) (st := []) dd_As_emitMove_26 vw_As_161 (by decide) rfl rfl rfl (np := 2) (by decide +kernel) rfl rfl rfl rfl rfl (fb_mono h (fun r7 s8 h => ?_))
    refine fb_aload_n dd_As_emitMove_29 rfl (by decide) (fb_iconst dd_As_emitMove_30 (fb_aload_n dd_As_emitMove_31 rfl (by decide) (fb_iload_n dd_As_emitMove_32 rfl (fb_iload_n dd_As_emitMove_33 rfl ?_))))
    refine fb_callVi (z := fb_As_part) (k := 3) (vs := [.inl v1, .inl v3]) (st := [.inl 1, .inr 3]) dd_As_emitMove_34 vw_As_164 (by decide) ⟨_, rfl⟩ rfl rfl (np := 2) (by decide +kernel) rfl rfl rfl rfl rfl (fb_mono h (fun r9 s10 h => ?_))
    refine fb_callVv (z := fb_As_emit) (k := 3) (vs := [.inl 1, .inl r9]) (st := []) dd_As_emitMove_37 vw_As_161 (by decide) rfl rfl rfl (np := 2) (by decide +kernel) rfl rfl rfl rfl rfl (fb_mono h (fun r11 s12 h => ?_))
    refine fb_iinc dd_As_emitMove_40 rfl rfl rfl (fb_goto (tgt := 2) dd_As_emitMove_43 rfl ?_)
    exact h

theorem As_emitCombine_b0 {E : fb_E} {σ : fb_S} {Q : Int → fb_S → Prop} (v1 v2 v3 v4 : Int) (h : fb_V E fb_As_emitCombine 3 [.inr 3, .inl v1, .inl v2, .inl v3, .inl v4, .inl 0] [] σ Q) : fb_V E fb_As_emitCombine 0 [.inr 3, .inl v1, .inl v2, .inl v3, .inl v4, .inr 999] [] σ Q := by
  refine fb_iconst dd_As_emitCombine_0 (fb_istore dd_As_emitCombine_1 rfl rfl rfl ?_)
  exact h
theorem As_emitCombine_b3 {E : fb_E} {σ : fb_S} {Q : Int → fb_S → Prop} (v1 v2 v3 v4 v5 : Int) (h : fb_V E fb_Pr_sizeOf 0 [.inr 1, .inl (σ.1 107), .inl v2, .inr 999] [] σ (fun r1 s2 => (-2147483648 ≤ v5 ∧ v5 < 2147483648) ∧ ((-2147483648 ≤ r1 ∧ r1 < 2147483648) ∧ ((r1 ≤ v5 → Q 0 s2) ∧ (¬ r1 ≤ v5 → fb_V E fb_As_part 0 [.inr 3, .inl v3, .inl v5] [] s2 (fun r5 s6 => fb_V E fb_As_emit 0 [.inr 3, .inl 0, .inl r5, .inr 999] [] s6 (fun _ s8 => fb_V E fb_As_part 0 [.inr 3, .inl v4, .inl v5] [] s8 (fun r9 s10 => fb_V E fb_As_emit 0 [.inr 3, .inl v1, .inl r9, .inr 999] [] s10 (fun _ s12 => fb_V E fb_As_part 0 [.inr 3, .inl v2, .inl v5] [] s12 (fun r13 s14 => fb_V E fb_As_emit 0 [.inr 3, .inl 1, .inl r13, .inr 999] [] s14 (fun _ s16 => fb_V E fb_As_emitCombine 3 [.inr 3, .inl v1, .inl v2, .inl v3, .inl v4, .inl (v5 + 1)] [] s16 Q))))))))))) : fb_V E fb_As_emitCombine 3 [.inr 3, .inl v1, .inl v2, .inl v3, .inl v4, .inl v5] [] σ Q := by
  refine fb_iload dd_As_emitCombine_3 rfl (fb_aload_n dd_As_emitCombine_5 rfl (by decide) (fb_getR 3 0 dd_As_emitCombine_6 rfl rfl rfl (by decide) lk_As_31 (fb_aload_n dd_As_emitCombine_9 rfl (by decide) (fb_getI (x := σ.1 107) 3 11 dd_As_emitCombine_10 rfl rfl rfl (by decide) lk_As_90 rfl (fb_iload_n dd_As_emitCombine_13 rfl ?_)))))
  refine fb_callVi (z := fb_Pr_sizeOf) (k := 1) (vs := [.inl (σ.1 107), .inl v2]) (st := [.inl v5]) dd_As_emitCombine_14 vw_As_157 (by decide) ⟨_, rfl⟩ rfl rfl (np := 2) (by decide +kernel) rfl rfl rfl rfl rfl (fb_mono h (fun r1 s2 h => ?_))
  obtain ⟨q3, h⟩ := h
  obtain ⟨q4, h⟩ := h
  refine fb_icmp_ge (tgt := 63) dd_As_emitCombine_17 rfl q3 q4 (fun hc => ?_) (fun hc => ?_)
  · replace h := h.1 hc
    exact fb_vret dd_As_emitCombine_63 rfl h
  · replace h := h.2 hc
    refine fb_aload_n dd_As_emitCombine_20 rfl (by decide) (fb_iconst dd_As_emitCombine_21 (fb_aload_n dd_As_emitCombine_22 rfl (by decide) (fb_iload_n dd_As_emitCombine_23 rfl (fb_iload dd_As_emitCombine_24 rfl ?_))))
    refine fb_callVi (z := fb_As_part) (k := 3) (vs := [.inl v3, .inl v5]) (st := [.inl 0, .inr 3]) dd_As_emitCombine_26 vw_As_164 (by decide) ⟨_, rfl⟩ rfl rfl (np := 2) (by decide +kernel) rfl rfl rfl rfl rfl (fb_mono h (fun r5 s6 h => ?_))
    refine fb_callVv (z := fb_As_emit) (k := 3) (vs := [.inl 0, .inl r5]) (st := []) dd_As_emitCombine_29 vw_As_161 (by decide) rfl rfl rfl (np := 2) (by decide +kernel) rfl rfl rfl rfl rfl (fb_mono h (fun r7 s8 h => ?_))
    refine fb_aload_n dd_As_emitCombine_32 rfl (by decide) (fb_iload_n dd_As_emitCombine_33 rfl (fb_aload_n dd_As_emitCombine_34 rfl (by decide) (fb_iload dd_As_emitCombine_35 rfl (fb_iload dd_As_emitCombine_37 rfl ?_))))
    refine fb_callVi (z := fb_As_part) (k := 3) (vs := [.inl v4, .inl v5]) (st := [.inl v1, .inr 3]) dd_As_emitCombine_39 vw_As_164 (by decide) ⟨_, rfl⟩ rfl rfl (np := 2) (by decide +kernel) rfl rfl rfl rfl rfl (fb_mono h (fun r9 s10 h => ?_))
    refine fb_callVv (z := fb_As_emit) (k := 3) (vs := [.inl v1, .inl r9]) (st := []) dd_As_emitCombine_42 vw_As_161 (by decide) rfl rfl rfl (np := 2) (by decide +kernel) rfl rfl rfl rfl rfl (fb_mono h (fun r11 s12 h => ?_))
    refine fb_aload_n dd_As_emitCombine_45 rfl (by decide) (fb_iconst dd_As_emitCombine_46 (fb_aload_n dd_As_emitCombine_47 rfl (by decide) (fb_iload_n dd_As_emitCombine_48 rfl (fb_iload dd_As_emitCombine_49 rfl ?_))))
    refine fb_callVi (z := fb_As_part) (k := 3) (vs := [.inl v2, .inl v5]) (st := [.inl 1, .inr 3]) dd_As_emitCombine_51 vw_As_164 (by decide) ⟨_, rfl⟩ rfl rfl (np := 2) (by decide +kernel) rfl rfl rfl rfl rfl (fb_mono h (fun r13 s14 h => ?_))
    refine fb_callVv (z := fb_As_emit) (k := 3) (vs := [.inl 1, .inl r13]) (st := []) dd_As_emitCombine_54 vw_As_161 (by decide) rfl rfl rfl (np := 2) (by decide +kernel) rfl rfl rfl rfl rfl (fb_mono h (fun r15 s16 h => ?_))
    refine fb_iinc dd_As_emitCombine_57 rfl rfl rfl (fb_goto (tgt := 3) dd_As_emitCombine_60 rfl ?_)
    exact h

theorem As_emitDouble_b0 {E : fb_E} {σ : fb_S} {Q : Int → fb_S → Prop} (v1 : Int) (h : fb_V E fb_As_part 0 [.inr 3, .inl v1, .inl 0] [] σ (fun r1 s2 => fb_V E fb_As_emit 0 [.inr 3, .inl 7, .inl r1, .inr 999] [] s2 (fun _ s4 => fb_V E fb_As_isWide 0 [.inr 3, .inl v1] [] s4 (fun r5 s6 => (-2147483648 ≤ r5 ∧ r5 < 2147483648) ∧ ((r5 = 0 → Q 0 s6) ∧ (¬ r5 = 0 → fb_V E fb_As_part 0 [.inr 3, .inl v1, .inl 1] [] s6 (fun r8 s9 => fb_V E fb_As_emit 0 [.inr 3, .inl 8, .inl r8, .inr 999] [] s9 (fun _ s11 => Q 0 s11)))))))) : fb_V E fb_As_emitDouble 0 [.inr 3, .inl v1] [] σ Q := by
  refine fb_aload_n dd_As_emitDouble_0 rfl (by decide) (fb_bipush dd_As_emitDouble_1 (by decide) (fb_aload_n dd_As_emitDouble_3 rfl (by decide) (fb_iload_n dd_As_emitDouble_4 rfl (fb_iconst dd_As_emitDouble_5 ?_))))
  refine fb_callVi (z := fb_As_part) (k := 3) (vs := [.inl v1, .inl 0]) (st := [.inl 7, .inr 3]) dd_As_emitDouble_6 vw_As_164 (by decide) ⟨_, rfl⟩ rfl rfl (np := 2) (by decide +kernel) rfl rfl rfl rfl rfl (fb_mono h (fun r1 s2 h => ?_))
  refine fb_callVv (z := fb_As_emit) (k := 3) (vs := [.inl 7, .inl r1]) (st := []) dd_As_emitDouble_9 vw_As_161 (by decide) rfl rfl rfl (np := 2) (by decide +kernel) rfl rfl rfl rfl rfl (fb_mono h (fun r3 s4 h => ?_))
  refine fb_aload_n dd_As_emitDouble_12 rfl (by decide) (fb_iload_n dd_As_emitDouble_13 rfl ?_)
  refine fb_callVi (z := fb_As_isWide) (k := 3) (vs := [.inl v1]) (st := []) dd_As_emitDouble_14 vw_As_167 (by decide) ⟨_, rfl⟩ rfl rfl (np := 1) (by decide +kernel) rfl rfl rfl rfl rfl (fb_mono h (fun r5 s6 h => ?_))
  obtain ⟨q7, h⟩ := h
  refine fb_if_eq (tgt := 32) dd_As_emitDouble_17 rfl q7 (fun hc => ?_) (fun hc => ?_)
  · replace h := h.1 hc
    exact fb_vret dd_As_emitDouble_32 rfl h
  · replace h := h.2 hc
    refine fb_aload_n dd_As_emitDouble_20 rfl (by decide) (fb_bipush dd_As_emitDouble_21 (by decide) (fb_aload_n dd_As_emitDouble_23 rfl (by decide) (fb_iload_n dd_As_emitDouble_24 rfl (fb_iconst dd_As_emitDouble_25 ?_))))
    refine fb_callVi (z := fb_As_part) (k := 3) (vs := [.inl v1, .inl 1]) (st := [.inl 8, .inr 3]) dd_As_emitDouble_26 vw_As_164 (by decide) ⟨_, rfl⟩ rfl rfl (np := 2) (by decide +kernel) rfl rfl rfl rfl rfl (fb_mono h (fun r8 s9 h => ?_))
    refine fb_callVv (z := fb_As_emit) (k := 3) (vs := [.inl 8, .inl r8]) (st := []) dd_As_emitDouble_29 vw_As_161 (by decide) rfl rfl rfl (np := 2) (by decide +kernel) rfl rfl rfl rfl rfl (fb_mono h (fun r10 s11 h => ?_))
    exact fb_vret dd_As_emitDouble_32 rfl h

theorem As_emitLoad_b0 {E : fb_E} {σ : fb_S} {Q : Int → fb_S → Prop} (v1 v2 : Int) (h : (0 ≤ (σ.1 107) ∧ (σ.1 107) < 6) ∧ ((0 ≤ v2 ∧ v2 < 6) ∧ (fb_V E fb_As_emit 0 [.inr 3, .inl 0, .inl (512 + (σ.2 (25 + (σ.1 107).toNat) v2)), .inr 999] [] σ (fun _ s4 => fb_V E fb_As_part 0 [.inr 3, .inl v1, .inl 0] [] s4 (fun r5 s6 => fb_V E fb_As_emit 0 [.inr 3, .inl 1, .inl r5, .inr 999] [] s6 (fun _ s8 => fb_V E fb_As_isWide 0 [.inr 3, .inl v1] [] s8 (fun r9 s10 => (-2147483648 ≤ r9 ∧ r9 < 2147483648) ∧ ((r9 = 0 → Q 0 s10) ∧ (¬ r9 = 0 → fb_V E fb_As_emit 0 [.inr 3, .inl 0, .inl 256, .inr 999] [] s10 (fun _ s13 => fb_V E fb_As_part 0 [.inr 3, .inl v1, .inl 1] [] s13 (fun r14 s15 => fb_V E fb_As_emit 0 [.inr 3, .inl 1, .inl r14, .inr 999] [] s15 (fun _ s17 => Q 0 s17)))))))))))) : fb_V E fb_As_emitLoad 0 [.inr 3, .inl v1, .inl v2] [] σ Q := by
  refine fb_aload_n dd_As_emitLoad_0 rfl (by decide) (fb_iconst dd_As_emitLoad_1 (fb_sipush dd_As_emitLoad_2 (by decide) (fb_aload_n dd_As_emitLoad_5 rfl (by decide) (fb_getR 3 1 dd_As_emitLoad_6 rfl rfl rfl (by decide) lk_As_35 (fb_getR 2 4 dd_As_emitLoad_9 rfl rfl rfl (by decide) lk_As_170 (fb_aload_n dd_As_emitLoad_12 rfl (by decide) (fb_getI (x := σ.1 107) 3 11 dd_As_emitLoad_13 rfl rfl rfl (by decide) lk_As_90 rfl ?_)))))))
  obtain ⟨q1, h⟩ := h
  refine fb_ald dd_As_emitLoad_16 rfl q1 (fb_iload_n dd_As_emitLoad_17 rfl ?_)
  obtain ⟨q2, h⟩ := h
  refine fb_ild (x := σ.2 (25 + (σ.1 107).toNat) v2) dd_As_emitLoad_18 (fb_row25 q1) q2 rfl (fb_iadd dd_As_emitLoad_19 ?_)
  refine fb_callVv (z := fb_As_emit) (k := 3) (vs := [.inl 0, .inl (512 + (σ.2 (25 + (σ.1 107).toNat) v2))]) (st := []) dd_As_emitLoad_20 vw_As_161 (by decide) rfl rfl rfl (np := 2) (by decide +kernel) rfl rfl rfl rfl rfl (fb_mono h (fun r3 s4 h => ?_))
  refine fb_aload_n dd_As_emitLoad_23 rfl (by decide) (fb_iconst dd_As_emitLoad_24 (fb_aload_n dd_As_emitLoad_25 rfl (by decide) (fb_iload_n dd_As_emitLoad_26 rfl (fb_iconst dd_As_emitLoad_27 ?_))))
  refine fb_callVi (z := fb_As_part) (k := 3) (vs := [.inl v1, .inl 0]) (st := [.inl 1, .inr 3]) dd_As_emitLoad_28 vw_As_164 (by decide) ⟨_, rfl⟩ rfl rfl (np := 2) (by decide +kernel) rfl rfl rfl rfl rfl (fb_mono h (fun r5 s6 h => ?_))
  refine fb_callVv (z := fb_As_emit) (k := 3) (vs := [.inl 1, .inl r5]) (st := []) dd_As_emitLoad_31 vw_As_161 (by decide) rfl rfl rfl (np := 2) (by decide +kernel) rfl rfl rfl rfl rfl (fb_mono h (fun r7 s8 h => ?_))
  refine fb_aload_n dd_As_emitLoad_34 rfl (by decide) (fb_iload_n dd_As_emitLoad_35 rfl ?_)
  refine fb_callVi (z := fb_As_isWide) (k := 3) (vs := [.inl v1]) (st := []) dd_As_emitLoad_36 vw_As_167 (by decide) ⟨_, rfl⟩ rfl rfl (np := 1) (by decide +kernel) rfl rfl rfl rfl rfl (fb_mono h (fun r9 s10 h => ?_))
  obtain ⟨q11, h⟩ := h
  refine fb_if_eq (tgt := 61) dd_As_emitLoad_39 rfl q11 (fun hc => ?_) (fun hc => ?_)
  · replace h := h.1 hc
    exact fb_vret dd_As_emitLoad_61 rfl h
  · replace h := h.2 hc
    refine fb_aload_n dd_As_emitLoad_42 rfl (by decide) (fb_iconst dd_As_emitLoad_43 (fb_sipush dd_As_emitLoad_44 (by decide) ?_))
    refine fb_callVv (z := fb_As_emit) (k := 3) (vs := [.inl 0, .inl 256]) (st := []) dd_As_emitLoad_47 vw_As_161 (by decide) rfl rfl rfl (np := 2) (by decide +kernel) rfl rfl rfl rfl rfl (fb_mono h (fun r12 s13 h => ?_))
    refine fb_aload_n dd_As_emitLoad_50 rfl (by decide) (fb_iconst dd_As_emitLoad_51 (fb_aload_n dd_As_emitLoad_52 rfl (by decide) (fb_iload_n dd_As_emitLoad_53 rfl (fb_iconst dd_As_emitLoad_54 ?_))))
    refine fb_callVi (z := fb_As_part) (k := 3) (vs := [.inl v1, .inl 1]) (st := [.inl 1, .inr 3]) dd_As_emitLoad_55 vw_As_164 (by decide) ⟨_, rfl⟩ rfl rfl (np := 2) (by decide +kernel) rfl rfl rfl rfl rfl (fb_mono h (fun r14 s15 h => ?_))
    refine fb_callVv (z := fb_As_emit) (k := 3) (vs := [.inl 1, .inl r14]) (st := []) dd_As_emitLoad_58 vw_As_161 (by decide) rfl rfl rfl (np := 2) (by decide +kernel) rfl rfl rfl rfl rfl (fb_mono h (fun r16 s17 h => ?_))
    exact fb_vret dd_As_emitLoad_61 rfl h

theorem As_emitStore_b0 {E : fb_E} {σ : fb_S} {Q : Int → fb_S → Prop} (v1 v2 : Int) (h : fb_V E fb_As_part 0 [.inr 3, .inl v2, .inl 0] [] σ (fun r1 s2 => fb_V E fb_As_emit 0 [.inr 3, .inl 0, .inl r1, .inr 999] [] s2 (fun _ s4 => (0 ≤ (s4.1 107) ∧ (s4.1 107) < 6) ∧ ((0 ≤ v1 ∧ v1 < 6) ∧ (fb_V E fb_As_emit 0 [.inr 3, .inl 1, .inl (512 + (s4.2 (25 + (s4.1 107).toNat) v1)), .inr 999] [] s4 (fun _ s8 => Q 0 s8)))))) : fb_V E fb_As_emitStore 0 [.inr 3, .inl v1, .inl v2] [] σ Q := by
  refine fb_aload_n dd_As_emitStore_0 rfl (by decide) (fb_iconst dd_As_emitStore_1 (fb_aload_n dd_As_emitStore_2 rfl (by decide) (fb_iload_n dd_As_emitStore_3 rfl (fb_iconst dd_As_emitStore_4 ?_))))
  refine fb_callVi (z := fb_As_part) (k := 3) (vs := [.inl v2, .inl 0]) (st := [.inl 0, .inr 3]) dd_As_emitStore_5 vw_As_164 (by decide) ⟨_, rfl⟩ rfl rfl (np := 2) (by decide +kernel) rfl rfl rfl rfl rfl (fb_mono h (fun r1 s2 h => ?_))
  refine fb_callVv (z := fb_As_emit) (k := 3) (vs := [.inl 0, .inl r1]) (st := []) dd_As_emitStore_8 vw_As_161 (by decide) rfl rfl rfl (np := 2) (by decide +kernel) rfl rfl rfl rfl rfl (fb_mono h (fun r3 s4 h => ?_))
  refine fb_aload_n dd_As_emitStore_11 rfl (by decide) (fb_iconst dd_As_emitStore_12 (fb_sipush dd_As_emitStore_13 (by decide) (fb_aload_n dd_As_emitStore_16 rfl (by decide) (fb_getR 3 1 dd_As_emitStore_17 rfl rfl rfl (by decide) lk_As_35 (fb_getR 2 4 dd_As_emitStore_20 rfl rfl rfl (by decide) lk_As_170 (fb_aload_n dd_As_emitStore_23 rfl (by decide) (fb_getI (x := s4.1 107) 3 11 dd_As_emitStore_24 rfl rfl rfl (by decide) lk_As_90 rfl ?_)))))))
  obtain ⟨q5, h⟩ := h
  refine fb_ald dd_As_emitStore_27 rfl q5 (fb_iload_n dd_As_emitStore_28 rfl ?_)
  obtain ⟨q6, h⟩ := h
  refine fb_ild (x := s4.2 (25 + (s4.1 107).toNat) v1) dd_As_emitStore_29 (fb_row25 q5) q6 rfl (fb_iadd dd_As_emitStore_30 ?_)
  refine fb_callVv (z := fb_As_emit) (k := 3) (vs := [.inl 1, .inl (512 + (s4.2 (25 + (s4.1 107).toNat) v1))]) (st := []) dd_As_emitStore_31 vw_As_161 (by decide) rfl rfl rfl (np := 2) (by decide +kernel) rfl rfl rfl rfl rfl (fb_mono h (fun r7 s8 h => ?_))
  exact fb_vret dd_As_emitStore_34 rfl h

theorem As_emitIndex_b0 {E : fb_E} {σ : fb_S} {Q : Int → fb_S → Prop} (v1 v2 : Int) (h : fb_V E fb_As_part 0 [.inr 3, .inl v2, .inl 0] [] σ (fun r1 s2 => fb_V E fb_As_emit 0 [.inr 3, .inl 9, .inl r1, .inr 999] [] s2 (fun _ s4 => fb_V E fb_Pr_sizeOf 0 [.inr 1, .inl (s4.1 107), .inl v1, .inr 999] [] s4 (fun r5 s6 => fb_V E fb_As_emit 0 [.inr 3, .inl 11, .inl (256 + r5), .inr 999] [] s6 (fun _ s8 => fb_V E fb_As_put 0 [.inr 3, .inl 134] [] s8 (fun _ s10 => fb_V E fb_As_put 0 [.inr 3, .inl 1] [] s10 (fun _ s12 => fb_V E fb_As_emitAlone 0 [.inr 3, .inl 22] [] s12 (fun _ s14 => Q 0 s14)))))))) : fb_V E fb_As_emitIndex 0 [.inr 3, .inl v1, .inl v2] [] σ Q := by
  refine fb_aload_n dd_As_emitIndex_0 rfl (by decide) (fb_bipush dd_As_emitIndex_1 (by decide) (fb_aload_n dd_As_emitIndex_3 rfl (by decide) (fb_iload_n dd_As_emitIndex_4 rfl (fb_iconst dd_As_emitIndex_5 ?_))))
  refine fb_callVi (z := fb_As_part) (k := 3) (vs := [.inl v2, .inl 0]) (st := [.inl 9, .inr 3]) dd_As_emitIndex_6 vw_As_164 (by decide) ⟨_, rfl⟩ rfl rfl (np := 2) (by decide +kernel) rfl rfl rfl rfl rfl (fb_mono h (fun r1 s2 h => ?_))
  refine fb_callVv (z := fb_As_emit) (k := 3) (vs := [.inl 9, .inl r1]) (st := []) dd_As_emitIndex_9 vw_As_161 (by decide) rfl rfl rfl (np := 2) (by decide +kernel) rfl rfl rfl rfl rfl (fb_mono h (fun r3 s4 h => ?_))
  refine fb_aload_n dd_As_emitIndex_12 rfl (by decide) (fb_bipush dd_As_emitIndex_13 (by decide) (fb_sipush dd_As_emitIndex_15 (by decide) (fb_aload_n dd_As_emitIndex_18 rfl (by decide) (fb_getR 3 0 dd_As_emitIndex_19 rfl rfl rfl (by decide) lk_As_31 (fb_aload_n dd_As_emitIndex_22 rfl (by decide) (fb_getI (x := s4.1 107) 3 11 dd_As_emitIndex_23 rfl rfl rfl (by decide) lk_As_90 rfl (fb_iload_n dd_As_emitIndex_26 rfl ?_)))))))
  refine fb_callVi (z := fb_Pr_sizeOf) (k := 1) (vs := [.inl (s4.1 107), .inl v1]) (st := [.inl 256, .inl 11, .inr 3]) dd_As_emitIndex_27 vw_As_157 (by decide) ⟨_, rfl⟩ rfl rfl (np := 2) (by decide +kernel) rfl rfl rfl rfl rfl (fb_mono h (fun r5 s6 h => ?_))
  refine fb_iadd dd_As_emitIndex_30 ?_
  refine fb_callVv (z := fb_As_emit) (k := 3) (vs := [.inl 11, .inl (256 + r5)]) (st := []) dd_As_emitIndex_31 vw_As_161 (by decide) rfl rfl rfl (np := 2) (by decide +kernel) rfl rfl rfl rfl rfl (fb_mono h (fun r7 s8 h => ?_))
  refine fb_aload_n dd_As_emitIndex_34 rfl (by decide) (fb_sipush dd_As_emitIndex_35 (by decide) ?_)
  refine fb_callVv (z := fb_As_put) (k := 3) (vs := [.inl 134]) (st := []) dd_As_emitIndex_38 vw_As_176 (by decide) rfl rfl rfl (np := 1) (by decide +kernel) rfl rfl rfl rfl rfl (fb_mono h (fun r9 s10 h => ?_))
  refine fb_aload_n dd_As_emitIndex_41 rfl (by decide) (fb_iconst dd_As_emitIndex_42 ?_)
  refine fb_callVv (z := fb_As_put) (k := 3) (vs := [.inl 1]) (st := []) dd_As_emitIndex_43 vw_As_176 (by decide) rfl rfl rfl (np := 1) (by decide +kernel) rfl rfl rfl rfl rfl (fb_mono h (fun r11 s12 h => ?_))
  refine fb_aload_n dd_As_emitIndex_46 rfl (by decide) (fb_bipush dd_As_emitIndex_47 (by decide) ?_)
  refine fb_callVv (z := fb_As_emitAlone) (k := 3) (vs := [.inl 22]) (st := []) dd_As_emitIndex_49 vw_As_116 (by decide) rfl rfl rfl (np := 1) (by decide +kernel) rfl rfl rfl rfl rfl (fb_mono h (fun r13 s14 h => ?_))
  exact fb_vret dd_As_emitIndex_52 rfl h

theorem As_emitZero_b0 {E : fb_E} {σ : fb_S} {Q : Int → fb_S → Prop} (v1 : Int) (h : fb_V E fb_As_isWide 0 [.inr 3, .inl v1] [] σ (fun r1 s2 => (-2147483648 ≤ r1 ∧ r1 < 2147483648) ∧ ((r1 = 0 → fb_V E fb_As_part 0 [.inr 3, .inl v1, .inl 0] [] (fb_sg s2 106 (-1)) (fun r4 s5 => fb_V E fb_As_emit 0 [.inr 3, .inl 0, .inl r4, .inr 999] [] s5 (fun _ s7 => Q 0 s7))) ∧ (¬ r1 = 0 → fb_V E fb_As_part 0 [.inr 3, .inl v1, .inl 0] [] s2 (fun r8 s9 => fb_V E fb_As_emit 0 [.inr 3, .inl 0, .inl r8, .inr 999] [] s9 (fun _ s11 => fb_V E fb_As_part 0 [.inr 3, .inl v1, .inl 1] [] s11 (fun r12 s13 => fb_V E fb_As_emit 0 [.inr 3, .inl 5, .inl r12, .inr 999] [] s13 (fun _ s15 => Q 0 s15)))))))) : fb_V E fb_As_emitZero 0 [.inr 3, .inl v1] [] σ Q := by
  refine fb_aload_n dd_As_emitZero_0 rfl (by decide) (fb_iload_n dd_As_emitZero_1 rfl ?_)
  refine fb_callVi (z := fb_As_isWide) (k := 3) (vs := [.inl v1]) (st := []) dd_As_emitZero_2 vw_As_167 (by decide) ⟨_, rfl⟩ rfl rfl (np := 1) (by decide +kernel) rfl rfl rfl rfl rfl (fb_mono h (fun r1 s2 h => ?_))
  obtain ⟨q3, h⟩ := h
  refine fb_if_eq (tgt := 33) dd_As_emitZero_5 rfl q3 (fun hc => ?_) (fun hc => ?_)
  · replace h := h.1 hc
    refine fb_aload_n dd_As_emitZero_33 rfl (by decide) (fb_iconst dd_As_emitZero_34 (fb_putI 3 10 dd_As_emitZero_35 rfl rfl rfl (by decide) rfl (by decide +kernel) lk_As_93 (fb_aload_n dd_As_emitZero_38 rfl (by decide) (fb_iconst dd_As_emitZero_39 (fb_aload_n dd_As_emitZero_40 rfl (by decide) (fb_iload_n dd_As_emitZero_41 rfl (fb_iconst dd_As_emitZero_42 ?_)))))))
    refine fb_callVi (z := fb_As_part) (k := 3) (vs := [.inl v1, .inl 0]) (st := [.inl 0, .inr 3]) dd_As_emitZero_43 vw_As_164 (by decide) ⟨_, rfl⟩ rfl rfl (np := 2) (by decide +kernel) rfl rfl rfl rfl rfl (fb_mono h (fun r4 s5 h => ?_))
    refine fb_callVv (z := fb_As_emit) (k := 3) (vs := [.inl 0, .inl r4]) (st := []) dd_As_emitZero_46 vw_As_161 (by decide) rfl rfl rfl (np := 2) (by decide +kernel) rfl rfl rfl rfl rfl (fb_mono h (fun r6 s7 h => ?_))
    exact fb_vret dd_As_emitZero_49 rfl h
  · replace h := h.2 hc
    refine fb_aload_n dd_As_emitZero_8 rfl (by decide) (fb_iconst dd_As_emitZero_9 (fb_aload_n dd_As_emitZero_10 rfl (by decide) (fb_iload_n dd_As_emitZero_11 rfl (fb_iconst dd_As_emitZero_12 ?_))))
    refine fb_callVi (z := fb_As_part) (k := 3) (vs := [.inl v1, .inl 0]) (st := [.inl 0, .inr 3]) dd_As_emitZero_13 vw_As_164 (by decide) ⟨_, rfl⟩ rfl rfl (np := 2) (by decide +kernel) rfl rfl rfl rfl rfl (fb_mono h (fun r8 s9 h => ?_))
    refine fb_callVv (z := fb_As_emit) (k := 3) (vs := [.inl 0, .inl r8]) (st := []) dd_As_emitZero_16 vw_As_161 (by decide) rfl rfl rfl (np := 2) (by decide +kernel) rfl rfl rfl rfl rfl (fb_mono h (fun r10 s11 h => ?_))
    refine fb_aload_n dd_As_emitZero_19 rfl (by decide) (fb_iconst dd_As_emitZero_20 (fb_aload_n dd_As_emitZero_21 rfl (by decide) (fb_iload_n dd_As_emitZero_22 rfl (fb_iconst dd_As_emitZero_23 ?_))))
    refine fb_callVi (z := fb_As_part) (k := 3) (vs := [.inl v1, .inl 1]) (st := [.inl 5, .inr 3]) dd_As_emitZero_24 vw_As_164 (by decide) ⟨_, rfl⟩ rfl rfl (np := 2) (by decide +kernel) rfl rfl rfl rfl rfl (fb_mono h (fun r12 s13 h => ?_))
    refine fb_callVv (z := fb_As_emit) (k := 3) (vs := [.inl 5, .inl r12]) (st := []) dd_As_emitZero_27 vw_As_161 (by decide) rfl rfl rfl (np := 2) (by decide +kernel) rfl rfl rfl rfl rfl (fb_mono h (fun r14 s15 h => ?_))
    refine fb_goto (tgt := 49) dd_As_emitZero_30 rfl ?_
    exact fb_vret dd_As_emitZero_49 rfl h

theorem As_emitBelow_b0 {E : fb_E} {σ : fb_S} {Q : Int → fb_S → Prop} (v1 v2 : Int) (h : fb_V E fb_As_part 0 [.inr 3, .inl v1, .inl 0] [] σ (fun r1 s2 => fb_V E fb_As_emit 0 [.inr 3, .inl 0, .inl r1, .inr 999] [] s2 (fun _ s4 => fb_V E fb_As_part 0 [.inr 3, .inl v2, .inl 0] [] s4 (fun r5 s6 => fb_V E fb_As_emit 0 [.inr 3, .inl 10, .inl r5, .inr 999] [] s6 (fun _ s8 => fb_V E fb_As_isWide 0 [.inr 3, .inl v1] [] s8 (fun r9 s10 => (-2147483648 ≤ r9 ∧ r9 < 2147483648) ∧ ((¬ r9 = 0 → fb_V E fb_As_part 0 [.inr 3, .inl v1, .inl 1] [] s10 (fun r12 s13 => fb_V E fb_As_emit 0 [.inr 3, .inl 0, .inl r12, .inr 999] [] s13 (fun _ s15 => fb_V E fb_As_part 0 [.inr 3, .inl v2, .inl 1] [] s15 (fun r16 s17 => fb_V E fb_As_emit 0 [.inr 3, .inl 3, .inl r16, .inr 999] [] s17 (fun _ s19 => Q 0 s19))))) ∧ (r9 = 0 → fb_V E fb_As_isWide 0 [.inr 3, .inl v2] [] s10 (fun r20 s21 => (-2147483648 ≤ r20 ∧ r20 < 2147483648) ∧ ((r20 = 0 → Q 0 s21) ∧ (¬ r20 = 0 → fb_V E fb_As_part 0 [.inr 3, .inl v1, .inl 1] [] s21 (fun r23 s24 => fb_V E fb_As_emit 0 [.inr 3, .inl 0, .inl r23, .inr 999] [] s24 (fun _ s26 => fb_V E fb_As_part 0 [.inr 3, .inl v2, .inl 1] [] s26 (fun r27 s28 => fb_V E fb_As_emit 0 [.inr 3, .inl 3, .inl r27, .inr 999] [] s28 (fun _ s30 => Q 0 s30))))))))))))))) : fb_V E fb_As_emitBelow 0 [.inr 3, .inl v1, .inl v2] [] σ Q := by
  refine fb_aload_n dd_As_emitBelow_0 rfl (by decide) (fb_iconst dd_As_emitBelow_1 (fb_aload_n dd_As_emitBelow_2 rfl (by decide) (fb_iload_n dd_As_emitBelow_3 rfl (fb_iconst dd_As_emitBelow_4 ?_))))
  refine fb_callVi (z := fb_As_part) (k := 3) (vs := [.inl v1, .inl 0]) (st := [.inl 0, .inr 3]) dd_As_emitBelow_5 vw_As_164 (by decide) ⟨_, rfl⟩ rfl rfl (np := 2) (by decide +kernel) rfl rfl rfl rfl rfl (fb_mono h (fun r1 s2 h => ?_))
  refine fb_callVv (z := fb_As_emit) (k := 3) (vs := [.inl 0, .inl r1]) (st := []) dd_As_emitBelow_8 vw_As_161 (by decide) rfl rfl rfl (np := 2) (by decide +kernel) rfl rfl rfl rfl rfl (fb_mono h (fun r3 s4 h => ?_))
  refine fb_aload_n dd_As_emitBelow_11 rfl (by decide) (fb_bipush dd_As_emitBelow_12 (by decide) (fb_aload_n dd_As_emitBelow_14 rfl (by decide) (fb_iload_n dd_As_emitBelow_15 rfl (fb_iconst dd_As_emitBelow_16 ?_))))
  refine fb_callVi (z := fb_As_part) (k := 3) (vs := [.inl v2, .inl 0]) (st := [.inl 10, .inr 3]) dd_As_emitBelow_17 vw_As_164 (by decide) ⟨_, rfl⟩ rfl rfl (np := 2) (by decide +kernel) rfl rfl rfl rfl rfl (fb_mono h (fun r5 s6 h => ?_))
  refine fb_callVv (z := fb_As_emit) (k := 3) (vs := [.inl 10, .inl r5]) (st := []) dd_As_emitBelow_20 vw_As_161 (by decide) rfl rfl rfl (np := 2) (by decide +kernel) rfl rfl rfl rfl rfl (fb_mono h (fun r7 s8 h => ?_))
  refine fb_aload_n dd_As_emitBelow_23 rfl (by decide) (fb_iload_n dd_As_emitBelow_24 rfl ?_)
  refine fb_callVi (z := fb_As_isWide) (k := 3) (vs := [.inl v1]) (st := []) dd_As_emitBelow_25 vw_As_167 (by decide) ⟨_, rfl⟩ rfl rfl (np := 1) (by decide +kernel) rfl rfl rfl rfl rfl (fb_mono h (fun r9 s10 h => ?_))
  obtain ⟨q11, h⟩ := h
  refine fb_if_ne (tgt := 39) dd_As_emitBelow_28 rfl q11 (fun hc => ?_) (fun hc => ?_)
  · replace h := h.1 hc
    refine fb_aload_n dd_As_emitBelow_39 rfl (by decide) (fb_iconst dd_As_emitBelow_40 (fb_aload_n dd_As_emitBelow_41 rfl (by decide) (fb_iload_n dd_As_emitBelow_42 rfl (fb_iconst dd_As_emitBelow_43 ?_))))
    refine fb_callVi (z := fb_As_part) (k := 3) (vs := [.inl v1, .inl 1]) (st := [.inl 0, .inr 3]) dd_As_emitBelow_44 vw_As_164 (by decide) ⟨_, rfl⟩ rfl rfl (np := 2) (by decide +kernel) rfl rfl rfl rfl rfl (fb_mono h (fun r12 s13 h => ?_))
    refine fb_callVv (z := fb_As_emit) (k := 3) (vs := [.inl 0, .inl r12]) (st := []) dd_As_emitBelow_47 vw_As_161 (by decide) rfl rfl rfl (np := 2) (by decide +kernel) rfl rfl rfl rfl rfl (fb_mono h (fun r14 s15 h => ?_))
    refine fb_aload_n dd_As_emitBelow_50 rfl (by decide) (fb_iconst dd_As_emitBelow_51 (fb_aload_n dd_As_emitBelow_52 rfl (by decide) (fb_iload_n dd_As_emitBelow_53 rfl (fb_iconst dd_As_emitBelow_54 ?_))))
    refine fb_callVi (z := fb_As_part) (k := 3) (vs := [.inl v2, .inl 1]) (st := [.inl 3, .inr 3]) dd_As_emitBelow_55 vw_As_164 (by decide) ⟨_, rfl⟩ rfl rfl (np := 2) (by decide +kernel) rfl rfl rfl rfl rfl (fb_mono h (fun r16 s17 h => ?_))
    refine fb_callVv (z := fb_As_emit) (k := 3) (vs := [.inl 3, .inl r16]) (st := []) dd_As_emitBelow_58 vw_As_161 (by decide) rfl rfl rfl (np := 2) (by decide +kernel) rfl rfl rfl rfl rfl (fb_mono h (fun r18 s19 h => ?_))
    exact fb_vret dd_As_emitBelow_61 rfl h
  · replace h := h.2 hc
    refine fb_aload_n dd_As_emitBelow_31 rfl (by decide) (fb_iload_n dd_As_emitBelow_32 rfl ?_)
    refine fb_callVi (z := fb_As_isWide) (k := 3) (vs := [.inl v2]) (st := []) dd_As_emitBelow_33 vw_As_167 (by decide) ⟨_, rfl⟩ rfl rfl (np := 1) (by decide +kernel) rfl rfl rfl rfl rfl (fb_mono h (fun r20 s21 h => ?_))
    obtain ⟨q22, h⟩ := h
    refine fb_if_eq (tgt := 61) dd_As_emitBelow_36 rfl q22 (fun hc => ?_) (fun hc => ?_)
    · replace h := h.1 hc
      exact fb_vret dd_As_emitBelow_61 rfl h
    · replace h := h.2 hc
      refine fb_aload_n dd_As_emitBelow_39 rfl (by decide) (fb_iconst dd_As_emitBelow_40 (fb_aload_n dd_As_emitBelow_41 rfl (by decide) (fb_iload_n dd_As_emitBelow_42 rfl (fb_iconst dd_As_emitBelow_43 ?_))))
      refine fb_callVi (z := fb_As_part) (k := 3) (vs := [.inl v1, .inl 1]) (st := [.inl 0, .inr 3]) dd_As_emitBelow_44 vw_As_164 (by decide) ⟨_, rfl⟩ rfl rfl (np := 2) (by decide +kernel) rfl rfl rfl rfl rfl (fb_mono h (fun r23 s24 h => ?_))
      refine fb_callVv (z := fb_As_emit) (k := 3) (vs := [.inl 0, .inl r23]) (st := []) dd_As_emitBelow_47 vw_As_161 (by decide) rfl rfl rfl (np := 2) (by decide +kernel) rfl rfl rfl rfl rfl (fb_mono h (fun r25 s26 h => ?_))
      refine fb_aload_n dd_As_emitBelow_50 rfl (by decide) (fb_iconst dd_As_emitBelow_51 (fb_aload_n dd_As_emitBelow_52 rfl (by decide) (fb_iload_n dd_As_emitBelow_53 rfl (fb_iconst dd_As_emitBelow_54 ?_))))
      refine fb_callVi (z := fb_As_part) (k := 3) (vs := [.inl v2, .inl 1]) (st := [.inl 3, .inr 3]) dd_As_emitBelow_55 vw_As_164 (by decide) ⟨_, rfl⟩ rfl rfl (np := 2) (by decide +kernel) rfl rfl rfl rfl rfl (fb_mono h (fun r27 s28 h => ?_))
      refine fb_callVv (z := fb_As_emit) (k := 3) (vs := [.inl 3, .inl r27]) (st := []) dd_As_emitBelow_58 vw_As_161 (by decide) rfl rfl rfl (np := 2) (by decide +kernel) rfl rfl rfl rfl rfl (fb_mono h (fun r29 s30 h => ?_))
      exact fb_vret dd_As_emitBelow_61 rfl h

theorem As_emitCall_b0 {E : fb_E} {σ : fb_S} {Q : Int → fb_S → Prop} (v1 v2 v3 : Int) (h : fb_V E fb_Pr_sizeOf 0 [.inr 1, .inl v1, .inl 0, .inr 999] [] σ (fun r1 s2 => fb_V E fb_Pr_isScalar 0 [.inl r1] [] s2 (fun r3 s4 => (-2147483648 ≤ r3 ∧ r3 < 2147483648) ∧ ((r3 = 0 → (0 ≤ v1 ∧ v1 < 6) ∧ ((0 ≤ (s4.2 14 v1) ∧ (s4.2 14 v1) < 60) ∧ (fb_V E fb_As_emitJump 0 [.inr 3, .inl 19, .inl (s4.2 33 (s4.2 14 v1))] [] s4 (fun _ s9 => fb_V E fb_As_emitCall 94 [.inr 3, .inr 999, .inr 999, .inl v3, .inr 999, .inl 0] [] (fb_sg s9 106 (-1)) Q)))) ∧ (¬ r3 = 0 → fb_V E fb_As_emitCall 22 [.inr 3, .inl v1, .inl v2, .inl v3, .inl r1, .inl 0] [] s4 Q))))) : fb_V E fb_As_emitCall 0 [.inr 3, .inl v1, .inl v2, .inl v3, .inr 999, .inr 999] [] σ Q := by
  refine fb_aload_n dd_As_emitCall_0 rfl (by decide) (fb_getR 3 0 dd_As_emitCall_1 rfl rfl rfl (by decide) lk_As_31 (fb_iload_n dd_As_emitCall_4 rfl (fb_iconst dd_As_emitCall_5 ?_)))
  refine fb_callVi (z := fb_Pr_sizeOf) (k := 1) (vs := [.inl v1, .inl 0]) (st := []) dd_As_emitCall_6 vw_As_157 (by decide) ⟨_, rfl⟩ rfl rfl (np := 2) (by decide +kernel) rfl rfl rfl rfl rfl (fb_mono h (fun r1 s2 h => ?_))
  refine fb_istore dd_As_emitCall_9 rfl rfl rfl (fb_iload dd_As_emitCall_11 rfl ?_)
  refine fb_callSi (z := fb_Pr_isScalar) (vs := [.inl r1]) (st := []) dd_As_emitCall_13 sw_As_179 (by decide) ⟨_, rfl⟩ (np := 1) (by decide +kernel) rfl rfl rfl rfl rfl (fb_mono h (fun r3 s4 h => ?_))
  obtain ⟨q5, h⟩ := h
  refine fb_if_eq (tgt := 66) dd_As_emitCall_16 rfl q5 (fun hc => ?_) (fun hc => ?_)
  · replace h := h.1 hc
    refine fb_aload_n dd_As_emitCall_66 rfl (by decide) (fb_bipush dd_As_emitCall_67 (by decide) (fb_aload_n dd_As_emitCall_69 rfl (by decide) (fb_getR 3 4 dd_As_emitCall_70 rfl rfl rfl (by decide) lk_As_18 (fb_aload_n dd_As_emitCall_73 rfl (by decide) (fb_getR 3 0 dd_As_emitCall_74 rfl rfl rfl (by decide) lk_As_31 (fb_getR 1 2 dd_As_emitCall_77 rfl rfl rfl (by decide) lk_As_84 (fb_iload_n dd_As_emitCall_80 rfl ?_)))))))
    obtain ⟨q6, h⟩ := h
    refine fb_ild (x := s4.2 14 v1) dd_As_emitCall_81 rfl q6 rfl ?_
    obtain ⟨q7, h⟩ := h
    refine fb_ild (x := s4.2 33 (s4.2 14 v1)) dd_As_emitCall_82 rfl q7 rfl ?_
    refine fb_callVv (z := fb_As_emitJump) (k := 3) (vs := [.inl 19, .inl (s4.2 33 (s4.2 14 v1))]) (st := []) dd_As_emitCall_83 vw_As_135 (by decide) rfl rfl rfl (np := 2) (by decide +kernel) rfl rfl rfl rfl rfl (fb_mono h (fun r8 s9 h => ?_))
    refine fb_aload_n dd_As_emitCall_86 rfl (by decide) (fb_iconst dd_As_emitCall_87 (fb_putI 3 10 dd_As_emitCall_88 rfl rfl rfl (by decide) rfl (by decide +kernel) lk_As_93 (fb_iconst dd_As_emitCall_91 (fb_istore dd_As_emitCall_92 rfl rfl rfl ?_))))
    exact fb_drop (fb_sub_k (fb_sub_d (fb_sub_d (fb_sub_k (fb_sub_d (fb_sub_k fb_sub_0)))))) h
  · replace h := h.2 hc
    refine fb_iconst dd_As_emitCall_19 (fb_istore dd_As_emitCall_20 rfl rfl rfl ?_)
    exact h
theorem As_emitCall_b22 {E : fb_E} {σ : fb_S} {Q : Int → fb_S → Prop} (v1 v2 v3 v4 v5 : Int) (h : (-2147483648 ≤ v5 ∧ v5 < 2147483648) ∧ ((-2147483648 ≤ v4 ∧ v4 < 2147483648) ∧ ((v4 ≤ v5 → (0 ≤ v1 ∧ v1 < 6) ∧ ((0 ≤ (σ.2 14 v1) ∧ (σ.2 14 v1) < 60) ∧ (fb_V E fb_As_emitJump 0 [.inr 3, .inl 19, .inl (σ.2 33 (σ.2 14 v1))] [] σ (fun _ s6 => fb_V E fb_As_emitCall 94 [.inr 3, .inr 999, .inr 999, .inl v3, .inr 999, .inl 0] [] (fb_sg s6 106 (-1)) Q)))) ∧ (¬ v4 ≤ v5 → fb_V E fb_As_part 0 [.inr 3, .inl v2, .inl v5] [] σ (fun r7 s8 => fb_V E fb_As_emit 0 [.inr 3, .inl 0, .inl r7, .inr 999] [] s8 (fun _ s10 => (0 ≤ v1 ∧ v1 < 6) ∧ (fb_V E fb_As_emit 0 [.inr 3, .inl 1, .inl ((s10.2 (25 + (v1).toNat) 0) + v5), .inr 999] [] s10 (fun _ s13 => fb_V E fb_As_emitCall 22 [.inr 3, .inl v1, .inl v2, .inl v3, .inl v4, .inl (v5 + 1)] [] s13 Q)))))))) : fb_V E fb_As_emitCall 22 [.inr 3, .inl v1, .inl v2, .inl v3, .inl v4, .inl v5] [] σ Q := by
  refine fb_iload dd_As_emitCall_22 rfl (fb_iload dd_As_emitCall_24 rfl ?_)
  obtain ⟨q1, h⟩ := h
  obtain ⟨q2, h⟩ := h
  refine fb_icmp_ge (tgt := 66) dd_As_emitCall_26 rfl q1 q2 (fun hc => ?_) (fun hc => ?_)
  · replace h := h.1 hc
    refine fb_aload_n dd_As_emitCall_66 rfl (by decide) (fb_bipush dd_As_emitCall_67 (by decide) (fb_aload_n dd_As_emitCall_69 rfl (by decide) (fb_getR 3 4 dd_As_emitCall_70 rfl rfl rfl (by decide) lk_As_18 (fb_aload_n dd_As_emitCall_73 rfl (by decide) (fb_getR 3 0 dd_As_emitCall_74 rfl rfl rfl (by decide) lk_As_31 (fb_getR 1 2 dd_As_emitCall_77 rfl rfl rfl (by decide) lk_As_84 (fb_iload_n dd_As_emitCall_80 rfl ?_)))))))
    obtain ⟨q3, h⟩ := h
    refine fb_ild (x := σ.2 14 v1) dd_As_emitCall_81 rfl q3 rfl ?_
    obtain ⟨q4, h⟩ := h
    refine fb_ild (x := σ.2 33 (σ.2 14 v1)) dd_As_emitCall_82 rfl q4 rfl ?_
    refine fb_callVv (z := fb_As_emitJump) (k := 3) (vs := [.inl 19, .inl (σ.2 33 (σ.2 14 v1))]) (st := []) dd_As_emitCall_83 vw_As_135 (by decide) rfl rfl rfl (np := 2) (by decide +kernel) rfl rfl rfl rfl rfl (fb_mono h (fun r5 s6 h => ?_))
    refine fb_aload_n dd_As_emitCall_86 rfl (by decide) (fb_iconst dd_As_emitCall_87 (fb_putI 3 10 dd_As_emitCall_88 rfl rfl rfl (by decide) rfl (by decide +kernel) lk_As_93 (fb_iconst dd_As_emitCall_91 (fb_istore dd_As_emitCall_92 rfl rfl rfl ?_))))
    exact fb_drop (fb_sub_k (fb_sub_d (fb_sub_d (fb_sub_k (fb_sub_d (fb_sub_k fb_sub_0)))))) h
  · replace h := h.2 hc
    refine fb_aload_n dd_As_emitCall_29 rfl (by decide) (fb_iconst dd_As_emitCall_30 (fb_aload_n dd_As_emitCall_31 rfl (by decide) (fb_iload_n dd_As_emitCall_32 rfl (fb_iload dd_As_emitCall_33 rfl ?_))))
    refine fb_callVi (z := fb_As_part) (k := 3) (vs := [.inl v2, .inl v5]) (st := [.inl 0, .inr 3]) dd_As_emitCall_35 vw_As_164 (by decide) ⟨_, rfl⟩ rfl rfl (np := 2) (by decide +kernel) rfl rfl rfl rfl rfl (fb_mono h (fun r7 s8 h => ?_))
    refine fb_callVv (z := fb_As_emit) (k := 3) (vs := [.inl 0, .inl r7]) (st := []) dd_As_emitCall_38 vw_As_161 (by decide) rfl rfl rfl (np := 2) (by decide +kernel) rfl rfl rfl rfl rfl (fb_mono h (fun r9 s10 h => ?_))
    refine fb_aload_n dd_As_emitCall_41 rfl (by decide) (fb_iconst dd_As_emitCall_42 (fb_aload_n dd_As_emitCall_43 rfl (by decide) (fb_getR 3 1 dd_As_emitCall_44 rfl rfl rfl (by decide) lk_As_35 (fb_getR 2 4 dd_As_emitCall_47 rfl rfl rfl (by decide) lk_As_170 (fb_iload_n dd_As_emitCall_50 rfl ?_)))))
    obtain ⟨q11, h⟩ := h
    refine fb_ald dd_As_emitCall_51 rfl q11 (fb_iconst dd_As_emitCall_52 (fb_ild (x := s10.2 (25 + (v1).toNat) 0) dd_As_emitCall_53 (fb_row25 q11) (by decide) rfl (fb_iload dd_As_emitCall_54 rfl (fb_iadd dd_As_emitCall_56 ?_))))
    refine fb_callVv (z := fb_As_emit) (k := 3) (vs := [.inl 1, .inl ((s10.2 (25 + (v1).toNat) 0) + v5)]) (st := []) dd_As_emitCall_57 vw_As_161 (by decide) rfl rfl rfl (np := 2) (by decide +kernel) rfl rfl rfl rfl rfl (fb_mono h (fun r12 s13 h => ?_))
    refine fb_iinc dd_As_emitCall_60 rfl rfl rfl (fb_goto (tgt := 22) dd_As_emitCall_63 rfl ?_)
    exact h
theorem As_emitCall_b94 {E : fb_E} {σ : fb_S} {Q : Int → fb_S → Prop} (v3 v5 : Int) (h : fb_V E fb_Pr_sizeOf 0 [.inr 1, .inl (σ.1 107), .inl v3, .inr 999] [] σ (fun r1 s2 => (-2147483648 ≤ v5 ∧ v5 < 2147483648) ∧ ((-2147483648 ≤ r1 ∧ r1 < 2147483648) ∧ ((r1 ≤ v5 → Q 0 s2) ∧ (¬ r1 ≤ v5 → fb_V E fb_As_emit 0 [.inr 3, .inl 0, .inl (126 + v5), .inr 999] [] s2 (fun _ s6 => fb_V E fb_As_part 0 [.inr 3, .inl v3, .inl v5] [] s6 (fun r7 s8 => fb_V E fb_As_emit 0 [.inr 3, .inl 1, .inl r7, .inr 999] [] s8 (fun _ s10 => fb_V E fb_As_emitCall 94 [.inr 3, .inr 999, .inr 999, .inl v3, .inr 999, .inl (v5 + 1)] [] s10 Q)))))))) : fb_V E fb_As_emitCall 94 [.inr 3, .inr 999, .inr 999, .inl v3, .inr 999, .inl v5] [] σ Q := by
  refine fb_iload dd_As_emitCall_94 rfl (fb_aload_n dd_As_emitCall_96 rfl (by decide) (fb_getR 3 0 dd_As_emitCall_97 rfl rfl rfl (by decide) lk_As_31 (fb_aload_n dd_As_emitCall_100 rfl (by decide) (fb_getI (x := σ.1 107) 3 11 dd_As_emitCall_101 rfl rfl rfl (by decide) lk_As_90 rfl (fb_iload_n dd_As_emitCall_104 rfl ?_)))))
  refine fb_callVi (z := fb_Pr_sizeOf) (k := 1) (vs := [.inl (σ.1 107), .inl v3]) (st := [.inl v5]) dd_As_emitCall_105 vw_As_157 (by decide) ⟨_, rfl⟩ rfl rfl (np := 2) (by decide +kernel) rfl rfl rfl rfl rfl (fb_mono h (fun r1 s2 h => ?_))
  obtain ⟨q3, h⟩ := h
  obtain ⟨q4, h⟩ := h
  refine fb_icmp_ge (tgt := 139) dd_As_emitCall_108 rfl q3 q4 (fun hc => ?_) (fun hc => ?_)
  · replace h := h.1 hc
    exact fb_vret dd_As_emitCall_139 rfl h
  · replace h := h.2 hc
    refine fb_aload_n dd_As_emitCall_111 rfl (by decide) (fb_iconst dd_As_emitCall_112 (fb_bipush dd_As_emitCall_113 (by decide) (fb_iload dd_As_emitCall_115 rfl (fb_iadd dd_As_emitCall_117 ?_))))
    refine fb_callVv (z := fb_As_emit) (k := 3) (vs := [.inl 0, .inl (126 + v5)]) (st := []) dd_As_emitCall_118 vw_As_161 (by decide) rfl rfl rfl (np := 2) (by decide +kernel) rfl rfl rfl rfl rfl (fb_mono h (fun r5 s6 h => ?_))
    refine fb_aload_n dd_As_emitCall_121 rfl (by decide) (fb_iconst dd_As_emitCall_122 (fb_aload_n dd_As_emitCall_123 rfl (by decide) (fb_iload_n dd_As_emitCall_124 rfl (fb_iload dd_As_emitCall_125 rfl ?_))))
    refine fb_callVi (z := fb_As_part) (k := 3) (vs := [.inl v3, .inl v5]) (st := [.inl 1, .inr 3]) dd_As_emitCall_127 vw_As_164 (by decide) ⟨_, rfl⟩ rfl rfl (np := 2) (by decide +kernel) rfl rfl rfl rfl rfl (fb_mono h (fun r7 s8 h => ?_))
    refine fb_callVv (z := fb_As_emit) (k := 3) (vs := [.inl 1, .inl r7]) (st := []) dd_As_emitCall_130 vw_As_161 (by decide) rfl rfl rfl (np := 2) (by decide +kernel) rfl rfl rfl rfl rfl (fb_mono h (fun r9 s10 h => ?_))
    refine fb_iinc dd_As_emitCall_133 rfl rfl rfl (fb_goto (tgt := 94) dd_As_emitCall_136 rfl ?_)
    exact h

theorem As_emitReturn_b0 {E : fb_E} {σ : fb_S} {Q : Int → fb_S → Prop} (v1 : Int) (h : fb_V E fb_As_emitReturn 2 [.inr 3, .inl v1, .inl 0] [] σ Q) : fb_V E fb_As_emitReturn 0 [.inr 3, .inl v1, .inr 999] [] σ Q := by
  refine fb_iconst dd_As_emitReturn_0 (fb_istore_n dd_As_emitReturn_1 rfl rfl rfl ?_)
  exact h
theorem As_emitReturn_b2 {E : fb_E} {σ : fb_S} {Q : Int → fb_S → Prop} (v1 v2 : Int) (h : (-2147483648 ≤ v2 ∧ v2 < 2147483648) ∧ ((2 ≤ v2 → fb_V E fb_As_emitAlone 0 [.inr 3, .inl 20] [] σ (fun _ s3 => Q 0 s3)) ∧ (¬ 2 ≤ v2 → fb_V E fb_As_part 0 [.inr 3, .inl v1, .inl v2] [] σ (fun r4 s5 => fb_V E fb_As_emit 0 [.inr 3, .inl 0, .inl r4, .inr 999] [] s5 (fun _ s7 => fb_V E fb_As_emit 0 [.inr 3, .inl 1, .inl (126 + v2), .inr 999] [] s7 (fun _ s9 => fb_V E fb_As_emitReturn 2 [.inr 3, .inl v1, .inl (v2 + 1)] [] s9 Q)))))) : fb_V E fb_As_emitReturn 2 [.inr 3, .inl v1, .inl v2] [] σ Q := by
  refine fb_iload_n dd_As_emitReturn_2 rfl (fb_iconst dd_As_emitReturn_3 ?_)
  obtain ⟨q1, h⟩ := h
  refine fb_icmp_ge (tgt := 33) dd_As_emitReturn_4 rfl q1 (by decide) (fun hc => ?_) (fun hc => ?_)
  · replace h := h.1 hc
    refine fb_aload_n dd_As_emitReturn_33 rfl (by decide) (fb_bipush dd_As_emitReturn_34 (by decide) ?_)
    refine fb_callVv (z := fb_As_emitAlone) (k := 3) (vs := [.inl 20]) (st := []) dd_As_emitReturn_36 vw_As_116 (by decide) rfl rfl rfl (np := 1) (by decide +kernel) rfl rfl rfl rfl rfl (fb_mono h (fun r2 s3 h => ?_))
    exact fb_vret dd_As_emitReturn_39 rfl h
  · replace h := h.2 hc
    refine fb_aload_n dd_As_emitReturn_7 rfl (by decide) (fb_iconst dd_As_emitReturn_8 (fb_aload_n dd_As_emitReturn_9 rfl (by decide) (fb_iload_n dd_As_emitReturn_10 rfl (fb_iload_n dd_As_emitReturn_11 rfl ?_))))
    refine fb_callVi (z := fb_As_part) (k := 3) (vs := [.inl v1, .inl v2]) (st := [.inl 0, .inr 3]) dd_As_emitReturn_12 vw_As_164 (by decide) ⟨_, rfl⟩ rfl rfl (np := 2) (by decide +kernel) rfl rfl rfl rfl rfl (fb_mono h (fun r4 s5 h => ?_))
    refine fb_callVv (z := fb_As_emit) (k := 3) (vs := [.inl 0, .inl r4]) (st := []) dd_As_emitReturn_15 vw_As_161 (by decide) rfl rfl rfl (np := 2) (by decide +kernel) rfl rfl rfl rfl rfl (fb_mono h (fun r6 s7 h => ?_))
    refine fb_aload_n dd_As_emitReturn_18 rfl (by decide) (fb_iconst dd_As_emitReturn_19 (fb_bipush dd_As_emitReturn_20 (by decide) (fb_iload_n dd_As_emitReturn_22 rfl (fb_iadd dd_As_emitReturn_23 ?_))))
    refine fb_callVv (z := fb_As_emit) (k := 3) (vs := [.inl 1, .inl (126 + v2)]) (st := []) dd_As_emitReturn_24 vw_As_161 (by decide) rfl rfl rfl (np := 2) (by decide +kernel) rfl rfl rfl rfl rfl (fb_mono h (fun r8 s9 h => ?_))
    refine fb_iinc dd_As_emitReturn_27 rfl rfl rfl (fb_goto (tgt := 2) dd_As_emitReturn_30 rfl ?_)
    exact h

theorem As_emitOut_b0 {E : fb_E} {σ : fb_S} {Q : Int → fb_S → Prop} (v1 : Int) (h : fb_V E fb_As_emitOut 2 [.inr 3, .inl v1, .inl 0] [] σ Q) : fb_V E fb_As_emitOut 0 [.inr 3, .inl v1, .inr 999] [] σ Q := by
  refine fb_iconst dd_As_emitOut_0 (fb_istore_n dd_As_emitOut_1 rfl rfl rfl ?_)
  exact h
theorem As_emitOut_b2 {E : fb_E} {σ : fb_S} {Q : Int → fb_S → Prop} (v1 v2 : Int) (h : fb_V E fb_Pr_sizeOf 0 [.inr 1, .inl (σ.1 107), .inl v1, .inr 999] [] σ (fun r1 s2 => (-2147483648 ≤ v2 ∧ v2 < 2147483648) ∧ ((-2147483648 ≤ r1 ∧ r1 < 2147483648) ∧ ((r1 ≤ v2 → Q 0 s2) ∧ (¬ r1 ≤ v2 → fb_V E fb_As_part 0 [.inr 3, .inl v1, .inl v2] [] s2 (fun r5 s6 => fb_V E fb_As_emit 0 [.inr 3, .inl 0, .inl r5, .inr 999] [] s6 (fun _ s8 => fb_V E fb_As_emitAlone 0 [.inr 3, .inl 21] [] s8 (fun _ s10 => fb_V E fb_As_emitOut 2 [.inr 3, .inl v1, .inl (v2 + 1)] [] s10 Q)))))))) : fb_V E fb_As_emitOut 2 [.inr 3, .inl v1, .inl v2] [] σ Q := by
  refine fb_iload_n dd_As_emitOut_2 rfl (fb_aload_n dd_As_emitOut_3 rfl (by decide) (fb_getR 3 0 dd_As_emitOut_4 rfl rfl rfl (by decide) lk_As_31 (fb_aload_n dd_As_emitOut_7 rfl (by decide) (fb_getI (x := σ.1 107) 3 11 dd_As_emitOut_8 rfl rfl rfl (by decide) lk_As_90 rfl (fb_iload_n dd_As_emitOut_11 rfl ?_)))))
  refine fb_callVi (z := fb_Pr_sizeOf) (k := 1) (vs := [.inl (σ.1 107), .inl v1]) (st := [.inl v2]) dd_As_emitOut_12 vw_As_157 (by decide) ⟨_, rfl⟩ rfl rfl (np := 2) (by decide +kernel) rfl rfl rfl rfl rfl (fb_mono h (fun r1 s2 h => ?_))
  obtain ⟨q3, h⟩ := h
  obtain ⟨q4, h⟩ := h
  refine fb_icmp_ge (tgt := 41) dd_As_emitOut_15 rfl q3 q4 (fun hc => ?_) (fun hc => ?_)
  · replace h := h.1 hc
    exact fb_vret dd_As_emitOut_41 rfl h
  · replace h := h.2 hc
    refine fb_aload_n dd_As_emitOut_18 rfl (by decide) (fb_iconst dd_As_emitOut_19 (fb_aload_n dd_As_emitOut_20 rfl (by decide) (fb_iload_n dd_As_emitOut_21 rfl (fb_iload_n dd_As_emitOut_22 rfl ?_))))
    refine fb_callVi (z := fb_As_part) (k := 3) (vs := [.inl v1, .inl v2]) (st := [.inl 0, .inr 3]) dd_As_emitOut_23 vw_As_164 (by decide) ⟨_, rfl⟩ rfl rfl (np := 2) (by decide +kernel) rfl rfl rfl rfl rfl (fb_mono h (fun r5 s6 h => ?_))
    refine fb_callVv (z := fb_As_emit) (k := 3) (vs := [.inl 0, .inl r5]) (st := []) dd_As_emitOut_26 vw_As_161 (by decide) rfl rfl rfl (np := 2) (by decide +kernel) rfl rfl rfl rfl rfl (fb_mono h (fun r7 s8 h => ?_))
    refine fb_aload_n dd_As_emitOut_29 rfl (by decide) (fb_bipush dd_As_emitOut_30 (by decide) ?_)
    refine fb_callVv (z := fb_As_emitAlone) (k := 3) (vs := [.inl 21]) (st := []) dd_As_emitOut_32 vw_As_116 (by decide) rfl rfl rfl (np := 1) (by decide +kernel) rfl rfl rfl rfl rfl (fb_mono h (fun r9 s10 h => ?_))
    refine fb_iinc dd_As_emitOut_35 rfl rfl rfl (fb_goto (tgt := 2) dd_As_emitOut_38 rfl ?_)
    exact h

theorem As_isWide_b0 {E : fb_E} {σ : fb_S} {Q : Int → fb_S → Prop} (v1 : Int) (h : fb_V E fb_Pr_sizeOf 0 [.inr 1, .inl (σ.1 107), .inl v1, .inr 999] [] σ (fun r1 s2 => (-2147483648 ≤ r1 ∧ r1 < 2147483648) ∧ ((¬ r1 = 2 → Q 0 s2) ∧ (r1 = 2 → Q 1 s2)))) : fb_V E fb_As_isWide 0 [.inr 3, .inl v1] [] σ Q := by
  refine fb_aload_n dd_As_isWide_0 rfl (by decide) (fb_getR 3 0 dd_As_isWide_1 rfl rfl rfl (by decide) lk_As_31 (fb_aload_n dd_As_isWide_4 rfl (by decide) (fb_getI (x := σ.1 107) 3 11 dd_As_isWide_5 rfl rfl rfl (by decide) lk_As_90 rfl (fb_iload_n dd_As_isWide_8 rfl ?_))))
  refine fb_callVi (z := fb_Pr_sizeOf) (k := 1) (vs := [.inl (σ.1 107), .inl v1]) (st := []) dd_As_isWide_9 vw_As_157 (by decide) ⟨_, rfl⟩ rfl rfl (np := 2) (by decide +kernel) rfl rfl rfl rfl rfl (fb_mono h (fun r1 s2 h => ?_))
  refine fb_iconst dd_As_isWide_12 ?_
  obtain ⟨q3, h⟩ := h
  refine fb_icmp_ne (tgt := 20) dd_As_isWide_13 rfl q3 (by decide) (fun hc => ?_) (fun hc => ?_)
  · replace h := h.1 hc
    refine fb_iconst dd_As_isWide_20 ?_
    exact fb_zret dd_As_isWide_21 rfl (by decide) h
  · replace h := h.2 hc
    refine fb_iconst dd_As_isWide_16 (fb_goto (tgt := 21) dd_As_isWide_17 rfl ?_)
    exact fb_zret dd_As_isWide_21 rfl (by decide) h

theorem As_part_b0 {E : fb_E} {σ : fb_S} {Q : Int → fb_S → Prop} (v1 v2 : Int) (h : fb_V E fb_Pr_sizeOf 0 [.inr 1, .inl (σ.1 107), .inl v1, .inr 999] [] σ (fun r1 s2 => (-2147483648 ≤ v2 ∧ v2 < 2147483648) ∧ ((-2147483648 ≤ r1 ∧ r1 < 2147483648) ∧ ((r1 ≤ v2 → Q 256 s2) ∧ (¬ r1 ≤ v2 → (0 ≤ (s2.1 107) ∧ (s2.1 107) < 6) ∧ ((0 ≤ v1 ∧ v1 < 6) ∧ (Q ((s2.2 (25 + (s2.1 107).toNat) v1) + v2) s2))))))) : fb_V E fb_As_part 0 [.inr 3, .inl v1, .inl v2] [] σ Q := by
  refine fb_iload_n dd_As_part_0 rfl (fb_aload_n dd_As_part_1 rfl (by decide) (fb_getR 3 0 dd_As_part_2 rfl rfl rfl (by decide) lk_As_31 (fb_aload_n dd_As_part_5 rfl (by decide) (fb_getI (x := σ.1 107) 3 11 dd_As_part_6 rfl rfl rfl (by decide) lk_As_90 rfl (fb_iload_n dd_As_part_9 rfl ?_)))))
  refine fb_callVi (z := fb_Pr_sizeOf) (k := 1) (vs := [.inl (σ.1 107), .inl v1]) (st := [.inl v2]) dd_As_part_10 vw_As_157 (by decide) ⟨_, rfl⟩ rfl rfl (np := 2) (by decide +kernel) rfl rfl rfl rfl rfl (fb_mono h (fun r1 s2 h => ?_))
  obtain ⟨q3, h⟩ := h
  obtain ⟨q4, h⟩ := h
  refine fb_icmp_ge (tgt := 35) dd_As_part_13 rfl q3 q4 (fun hc => ?_) (fun hc => ?_)
  · replace h := h.1 hc
    refine fb_sipush dd_As_part_35 (by decide) ?_
    exact fb_iret dd_As_part_38 rfl h
  · replace h := h.2 hc
    refine fb_aload_n dd_As_part_16 rfl (by decide) (fb_getR 3 1 dd_As_part_17 rfl rfl rfl (by decide) lk_As_35 (fb_getR 2 4 dd_As_part_20 rfl rfl rfl (by decide) lk_As_170 (fb_aload_n dd_As_part_23 rfl (by decide) (fb_getI (x := s2.1 107) 3 11 dd_As_part_24 rfl rfl rfl (by decide) lk_As_90 rfl ?_))))
    obtain ⟨q5, h⟩ := h
    refine fb_ald dd_As_part_27 rfl q5 (fb_iload_n dd_As_part_28 rfl ?_)
    obtain ⟨q6, h⟩ := h
    refine fb_ild (x := s2.2 (25 + (s2.1 107).toNat) v1) dd_As_part_29 (fb_row25 q5) q6 rfl (fb_iload_n dd_As_part_30 rfl (fb_iadd dd_As_part_31 (fb_goto (tgt := 38) dd_As_part_32 rfl ?_)))
    exact fb_iret dd_As_part_38 rfl h

theorem As_emit_b0 {E : fb_E} {σ : fb_S} {Q : Int → fb_S → Prop} (v1 v2 : Int) (h : (-2147483648 ≤ v1 ∧ v1 < 2147483648) ∧ ((¬ v1 = 0 → fb_V E fb_As_formOf 0 [.inl v2] [] σ (fun r2 s3 => fb_V E fb_As_put 0 [.inr 3, .inl ((8 * v1) + r2)] [] s3 (fun _ s5 => fb_V E fb_As_put 0 [.inr 3, .inl (v2 % 256)] [] s5 (fun _ s7 => (-2147483648 ≤ r2 ∧ r2 < 2147483648) ∧ ((r2 = 3 → fb_V E fb_As_put 0 [.inr 3, .inl 0] [] s7 (fun _ s10 => fb_V E fb_As_heldBehind 0 [.inr 3, .inl v1, .inl v2] [] s10 (fun r11 s12 => Q 0 (fb_sg s12 106 r11)))) ∧ (¬ r2 = 3 → (¬ r2 = 5 → fb_V E fb_As_heldBehind 0 [.inr 3, .inl v1, .inl v2] [] s7 (fun r13 s14 => Q 0 (fb_sg s14 106 r13))) ∧ (r2 = 5 → fb_V E fb_As_put 0 [.inr 3, .inl 0] [] s7 (fun _ s16 => fb_V E fb_As_heldBehind 0 [.inr 3, .inl v1, .inl v2] [] s16 (fun r17 s18 => Q 0 (fb_sg s18 106 r17)))))))))) ∧ (v1 = 0 → (-2147483648 ≤ v2 ∧ v2 < 2147483648) ∧ ((-2147483648 ≤ (σ.1 106) ∧ (σ.1 106) < 2147483648) ∧ ((¬ v2 = (σ.1 106) → fb_V E fb_As_formOf 0 [.inl v2] [] σ (fun r21 s22 => fb_V E fb_As_put 0 [.inr 3, .inl ((8 * v1) + r21)] [] s22 (fun _ s24 => fb_V E fb_As_put 0 [.inr 3, .inl (v2 % 256)] [] s24 (fun _ s26 => (-2147483648 ≤ r21 ∧ r21 < 2147483648) ∧ ((r21 = 3 → fb_V E fb_As_put 0 [.inr 3, .inl 0] [] s26 (fun _ s29 => fb_V E fb_As_heldBehind 0 [.inr 3, .inl v1, .inl v2] [] s29 (fun r30 s31 => Q 0 (fb_sg s31 106 r30)))) ∧ (¬ r21 = 3 → (¬ r21 = 5 → fb_V E fb_As_heldBehind 0 [.inr 3, .inl v1, .inl v2] [] s26 (fun r32 s33 => Q 0 (fb_sg s33 106 r32))) ∧ (r21 = 5 → fb_V E fb_As_put 0 [.inr 3, .inl 0] [] s26 (fun _ s35 => fb_V E fb_As_heldBehind 0 [.inr 3, .inl v1, .inl v2] [] s35 (fun r36 s37 => Q 0 (fb_sg s37 106 r36)))))))))) ∧ (v2 = (σ.1 106) → Q 0 σ)))))) : fb_V E fb_As_emit 0 [.inr 3, .inl v1, .inl v2, .inr 999] [] σ Q := by
  refine fb_iload_n dd_As_emit_0 rfl ?_
  obtain ⟨q1, h⟩ := h
  refine fb_if_ne (tgt := 13) dd_As_emit_1 rfl q1 (fun hc => ?_) (fun hc => ?_)
  · replace h := h.1 hc
    refine fb_iload_n dd_As_emit_13 rfl ?_
    refine fb_callSi (z := fb_As_formOf) (vs := [.inl v2]) (st := []) dd_As_emit_14 sw_As_182 (by decide) ⟨_, rfl⟩ (np := 1) (by decide +kernel) rfl rfl rfl rfl rfl (fb_mono h (fun r2 s3 h => ?_))
    refine fb_istore_n dd_As_emit_17 rfl rfl rfl (fb_aload_n dd_As_emit_18 rfl (by decide) (fb_bipush dd_As_emit_19 (by decide) (fb_iload_n dd_As_emit_21 rfl (fb_imul dd_As_emit_22 (fb_iload_n dd_As_emit_23 rfl (fb_iadd dd_As_emit_24 ?_))))))
    refine fb_callVv (z := fb_As_put) (k := 3) (vs := [.inl ((8 * v1) + r2)]) (st := []) dd_As_emit_25 vw_As_176 (by decide) rfl rfl rfl (np := 1) (by decide +kernel) rfl rfl rfl rfl rfl (fb_mono h (fun r4 s5 h => ?_))
    refine fb_aload_n dd_As_emit_28 rfl (by decide) (fb_iload_n dd_As_emit_29 rfl (fb_sipush dd_As_emit_30 (by decide) (fb_iandM 8 (p := 256) (by decide) (by decide) (by decide) dd_As_emit_33 ?_)))
    refine fb_callVv (z := fb_As_put) (k := 3) (vs := [.inl (v2 % 256)]) (st := []) dd_As_emit_34 vw_As_176 (by decide) rfl rfl rfl (np := 1) (by decide +kernel) rfl rfl rfl rfl rfl (fb_mono h (fun r6 s7 h => ?_))
    refine fb_iload_n dd_As_emit_37 rfl (fb_iconst dd_As_emit_38 ?_)
    obtain ⟨q8, h⟩ := h
    refine fb_icmp_eq (tgt := 47) dd_As_emit_39 rfl q8 (by decide) (fun hc => ?_) (fun hc => ?_)
    · replace h := h.1 hc
      refine fb_aload_n dd_As_emit_47 rfl (by decide) (fb_iconst dd_As_emit_48 ?_)
      refine fb_callVv (z := fb_As_put) (k := 3) (vs := [.inl 0]) (st := []) dd_As_emit_49 vw_As_176 (by decide) rfl rfl rfl (np := 1) (by decide +kernel) rfl rfl rfl rfl rfl (fb_mono h (fun r9 s10 h => ?_))
      refine fb_aload_n dd_As_emit_52 rfl (by decide) (fb_aload_n dd_As_emit_53 rfl (by decide) (fb_iload_n dd_As_emit_54 rfl (fb_iload_n dd_As_emit_55 rfl ?_)))
      refine fb_callVi (z := fb_As_heldBehind) (k := 3) (vs := [.inl v1, .inl v2]) (st := [.inr 3]) dd_As_emit_56 vw_As_185 (by decide) ⟨_, rfl⟩ rfl rfl (np := 2) (by decide +kernel) rfl rfl rfl rfl rfl (fb_mono h (fun r11 s12 h => ?_))
      refine fb_putI 3 10 dd_As_emit_59 rfl rfl rfl (by decide) rfl (by decide +kernel) lk_As_93 ?_
      exact fb_vret dd_As_emit_62 rfl h
    · replace h := h.2 hc
      refine fb_iload_n dd_As_emit_42 rfl (fb_iconst dd_As_emit_43 ?_)
      refine fb_icmp_ne (tgt := 52) dd_As_emit_44 rfl q8 (by decide) (fun hc => ?_) (fun hc => ?_)
      · replace h := h.1 hc
        refine fb_aload_n dd_As_emit_52 rfl (by decide) (fb_aload_n dd_As_emit_53 rfl (by decide) (fb_iload_n dd_As_emit_54 rfl (fb_iload_n dd_As_emit_55 rfl ?_)))
        refine fb_callVi (z := fb_As_heldBehind) (k := 3) (vs := [.inl v1, .inl v2]) (st := [.inr 3]) dd_As_emit_56 vw_As_185 (by decide) ⟨_, rfl⟩ rfl rfl (np := 2) (by decide +kernel) rfl rfl rfl rfl rfl (fb_mono h (fun r13 s14 h => ?_))
        refine fb_putI 3 10 dd_As_emit_59 rfl rfl rfl (by decide) rfl (by decide +kernel) lk_As_93 ?_
        exact fb_vret dd_As_emit_62 rfl h
      · replace h := h.2 hc
        refine fb_aload_n dd_As_emit_47 rfl (by decide) (fb_iconst dd_As_emit_48 ?_)
        refine fb_callVv (z := fb_As_put) (k := 3) (vs := [.inl 0]) (st := []) dd_As_emit_49 vw_As_176 (by decide) rfl rfl rfl (np := 1) (by decide +kernel) rfl rfl rfl rfl rfl (fb_mono h (fun r15 s16 h => ?_))
        refine fb_aload_n dd_As_emit_52 rfl (by decide) (fb_aload_n dd_As_emit_53 rfl (by decide) (fb_iload_n dd_As_emit_54 rfl (fb_iload_n dd_As_emit_55 rfl ?_)))
        refine fb_callVi (z := fb_As_heldBehind) (k := 3) (vs := [.inl v1, .inl v2]) (st := [.inr 3]) dd_As_emit_56 vw_As_185 (by decide) ⟨_, rfl⟩ rfl rfl (np := 2) (by decide +kernel) rfl rfl rfl rfl rfl (fb_mono h (fun r17 s18 h => ?_))
        refine fb_putI 3 10 dd_As_emit_59 rfl rfl rfl (by decide) rfl (by decide +kernel) lk_As_93 ?_
        exact fb_vret dd_As_emit_62 rfl h
  · replace h := h.2 hc
    refine fb_iload_n dd_As_emit_4 rfl (fb_aload_n dd_As_emit_5 rfl (by decide) (fb_getI (x := σ.1 106) 3 10 dd_As_emit_6 rfl rfl rfl (by decide) lk_As_93 rfl ?_))
    obtain ⟨q19, h⟩ := h
    obtain ⟨q20, h⟩ := h
    refine fb_icmp_ne (tgt := 13) dd_As_emit_9 rfl q19 q20 (fun hc => ?_) (fun hc => ?_)
    · replace h := h.1 hc
      refine fb_iload_n dd_As_emit_13 rfl ?_
      refine fb_callSi (z := fb_As_formOf) (vs := [.inl v2]) (st := []) dd_As_emit_14 sw_As_182 (by decide) ⟨_, rfl⟩ (np := 1) (by decide +kernel) rfl rfl rfl rfl rfl (fb_mono h (fun r21 s22 h => ?_))
      refine fb_istore_n dd_As_emit_17 rfl rfl rfl (fb_aload_n dd_As_emit_18 rfl (by decide) (fb_bipush dd_As_emit_19 (by decide) (fb_iload_n dd_As_emit_21 rfl (fb_imul dd_As_emit_22 (fb_iload_n dd_As_emit_23 rfl (fb_iadd dd_As_emit_24 ?_))))))
      refine fb_callVv (z := fb_As_put) (k := 3) (vs := [.inl ((8 * v1) + r21)]) (st := []) dd_As_emit_25 vw_As_176 (by decide) rfl rfl rfl (np := 1) (by decide +kernel) rfl rfl rfl rfl rfl (fb_mono h (fun r23 s24 h => ?_))
      refine fb_aload_n dd_As_emit_28 rfl (by decide) (fb_iload_n dd_As_emit_29 rfl (fb_sipush dd_As_emit_30 (by decide) (fb_iandM 8 (p := 256) (by decide) (by decide) (by decide) dd_As_emit_33 ?_)))
      refine fb_callVv (z := fb_As_put) (k := 3) (vs := [.inl (v2 % 256)]) (st := []) dd_As_emit_34 vw_As_176 (by decide) rfl rfl rfl (np := 1) (by decide +kernel) rfl rfl rfl rfl rfl (fb_mono h (fun r25 s26 h => ?_))
      refine fb_iload_n dd_As_emit_37 rfl (fb_iconst dd_As_emit_38 ?_)
      obtain ⟨q27, h⟩ := h
      refine fb_icmp_eq (tgt := 47) dd_As_emit_39 rfl q27 (by decide) (fun hc => ?_) (fun hc => ?_)
      · replace h := h.1 hc
        refine fb_aload_n dd_As_emit_47 rfl (by decide) (fb_iconst dd_As_emit_48 ?_)
        refine fb_callVv (z := fb_As_put) (k := 3) (vs := [.inl 0]) (st := []) dd_As_emit_49 vw_As_176 (by decide) rfl rfl rfl (np := 1) (by decide +kernel) rfl rfl rfl rfl rfl (fb_mono h (fun r28 s29 h => ?_))
        refine fb_aload_n dd_As_emit_52 rfl (by decide) (fb_aload_n dd_As_emit_53 rfl (by decide) (fb_iload_n dd_As_emit_54 rfl (fb_iload_n dd_As_emit_55 rfl ?_)))
        refine fb_callVi (z := fb_As_heldBehind) (k := 3) (vs := [.inl v1, .inl v2]) (st := [.inr 3]) dd_As_emit_56 vw_As_185 (by decide) ⟨_, rfl⟩ rfl rfl (np := 2) (by decide +kernel) rfl rfl rfl rfl rfl (fb_mono h (fun r30 s31 h => ?_))
        refine fb_putI 3 10 dd_As_emit_59 rfl rfl rfl (by decide) rfl (by decide +kernel) lk_As_93 ?_
        exact fb_vret dd_As_emit_62 rfl h
      · replace h := h.2 hc
        refine fb_iload_n dd_As_emit_42 rfl (fb_iconst dd_As_emit_43 ?_)
        refine fb_icmp_ne (tgt := 52) dd_As_emit_44 rfl q27 (by decide) (fun hc => ?_) (fun hc => ?_)
        · replace h := h.1 hc
          refine fb_aload_n dd_As_emit_52 rfl (by decide) (fb_aload_n dd_As_emit_53 rfl (by decide) (fb_iload_n dd_As_emit_54 rfl (fb_iload_n dd_As_emit_55 rfl ?_)))
          refine fb_callVi (z := fb_As_heldBehind) (k := 3) (vs := [.inl v1, .inl v2]) (st := [.inr 3]) dd_As_emit_56 vw_As_185 (by decide) ⟨_, rfl⟩ rfl rfl (np := 2) (by decide +kernel) rfl rfl rfl rfl rfl (fb_mono h (fun r32 s33 h => ?_))
          refine fb_putI 3 10 dd_As_emit_59 rfl rfl rfl (by decide) rfl (by decide +kernel) lk_As_93 ?_
          exact fb_vret dd_As_emit_62 rfl h
        · replace h := h.2 hc
          refine fb_aload_n dd_As_emit_47 rfl (by decide) (fb_iconst dd_As_emit_48 ?_)
          refine fb_callVv (z := fb_As_put) (k := 3) (vs := [.inl 0]) (st := []) dd_As_emit_49 vw_As_176 (by decide) rfl rfl rfl (np := 1) (by decide +kernel) rfl rfl rfl rfl rfl (fb_mono h (fun r34 s35 h => ?_))
          refine fb_aload_n dd_As_emit_52 rfl (by decide) (fb_aload_n dd_As_emit_53 rfl (by decide) (fb_iload_n dd_As_emit_54 rfl (fb_iload_n dd_As_emit_55 rfl ?_)))
          refine fb_callVi (z := fb_As_heldBehind) (k := 3) (vs := [.inl v1, .inl v2]) (st := [.inr 3]) dd_As_emit_56 vw_As_185 (by decide) ⟨_, rfl⟩ rfl rfl (np := 2) (by decide +kernel) rfl rfl rfl rfl rfl (fb_mono h (fun r36 s37 h => ?_))
          refine fb_putI 3 10 dd_As_emit_59 rfl rfl rfl (by decide) rfl (by decide +kernel) lk_As_93 ?_
          exact fb_vret dd_As_emit_62 rfl h
    · replace h := h.2 hc
      exact fb_vret dd_As_emit_12 rfl h

theorem As_formOf_b0 {E : fb_E} {σ : fb_S} {Q : Int → fb_S → Prop} (v0 : Int) (h : (-2147483648 ≤ v0 ∧ v0 < 2147483648) ∧ ((v0 < 512 → (v0 < 256 → (16 ≤ v0 → Q 3 σ) ∧ (¬ 16 ≤ v0 → Q 2 σ)) ∧ (¬ v0 < 256 → Q 1 σ)) ∧ (¬ v0 < 512 → (528 ≤ v0 → Q 5 σ) ∧ (¬ 528 ≤ v0 → Q 4 σ)))) : fb_V E fb_As_formOf 0 [.inl v0] [] σ Q := by
  refine fb_iload_n dd_As_formOf_0 rfl (fb_sipush dd_As_formOf_1 (by decide) ?_)
  obtain ⟨q1, h⟩ := h
  refine fb_icmp_lt (tgt := 20) dd_As_formOf_4 rfl q1 (by decide) (fun hc => ?_) (fun hc => ?_)
  · replace h := h.1 hc
    refine fb_iload_n dd_As_formOf_20 rfl (fb_sipush dd_As_formOf_21 (by decide) ?_)
    refine fb_icmp_lt (tgt := 29) dd_As_formOf_24 rfl q1 (by decide) (fun hc => ?_) (fun hc => ?_)
    · replace h := h.1 hc
      refine fb_iload_n dd_As_formOf_29 rfl (fb_bipush dd_As_formOf_30 (by decide) ?_)
      refine fb_icmp_ge (tgt := 39) dd_As_formOf_32 rfl q1 (by decide) (fun hc => ?_) (fun hc => ?_)
      · replace h := h.1 hc
        refine fb_iconst dd_As_formOf_39 ?_
        exact fb_iret dd_As_formOf_40 rfl h
      · replace h := h.2 hc
        refine fb_iconst dd_As_formOf_35 (fb_goto (tgt := 40) dd_As_formOf_36 rfl ?_)
        exact fb_iret dd_As_formOf_40 rfl h
    · replace h := h.2 hc
      refine fb_iconst dd_As_formOf_27 ?_
      exact fb_iret dd_As_formOf_28 rfl h
  · replace h := h.2 hc
    refine fb_iload_n dd_As_formOf_7 rfl (fb_sipush dd_As_formOf_8 (by decide) ?_)
    refine fb_icmp_ge (tgt := 18) dd_As_formOf_11 rfl q1 (by decide) (fun hc => ?_) (fun hc => ?_)
    · replace h := h.1 hc
      refine fb_iconst dd_As_formOf_18 ?_
      exact fb_iret dd_As_formOf_19 rfl h
    · replace h := h.2 hc
      refine fb_iconst dd_As_formOf_14 (fb_goto (tgt := 19) dd_As_formOf_15 rfl ?_)
      exact fb_iret dd_As_formOf_19 rfl h

theorem As_heldBehind_b0 {E : fb_E} {σ : fb_S} {Q : Int → fb_S → Prop} (v1 v2 : Int) (h : (-2147483648 ≤ v1 ∧ v1 < 2147483648) ∧ ((v1 = 0 → (-2147483648 ≤ v2 ∧ v2 < 2147483648) ∧ ((512 ≤ v2 → Q (-1) σ) ∧ (¬ 512 ≤ v2 → Q v2 σ))) ∧ (v1 = 1 → (-2147483648 ≤ v2 ∧ v2 < 2147483648) ∧ ((512 ≤ v2 → Q (σ.1 106) σ) ∧ (¬ 512 ≤ v2 → Q v2 σ))) ∧ (v1 = 2 ∨ v1 = 3 ∨ v1 = 4 ∨ v1 = 5 ∨ v1 = 6 → Q (-1) σ) ∧ (v1 = 7 ∨ v1 = 8 → (-2147483648 ≤ v2 ∧ v2 < 2147483648) ∧ ((-2147483648 ≤ (σ.1 106) ∧ (σ.1 106) < 2147483648) ∧ ((¬ v2 = (σ.1 106) → Q (σ.1 106) σ) ∧ (v2 = (σ.1 106) → Q (-1) σ)))) ∧ ((¬ v1 = 0 ∧ ¬ v1 = 1 ∧ ¬ v1 = 2 ∧ ¬ v1 = 3 ∧ ¬ v1 = 4 ∧ ¬ v1 = 5 ∧ ¬ v1 = 6 ∧ ¬ v1 = 7 ∧ ¬ v1 = 8) → Q (σ.1 106) σ))) : fb_V E fb_As_heldBehind 0 [.inr 3, .inl v1, .inl v2] [] σ Q := by
  refine fb_iload_n dd_As_heldBehind_0 rfl ?_
  obtain ⟨q1, h⟩ := h
  rcases (show (v1 = 0) ∨ (v1 = 1) ∨ (v1 = 2 ∨ v1 = 3 ∨ v1 = 4 ∨ v1 = 5 ∨ v1 = 6) ∨ (v1 = 7 ∨ v1 = 8) ∨ (¬ v1 = 0 ∧ ¬ v1 = 1 ∧ ¬ v1 = 2 ∧ ¬ v1 = 3 ∧ ¬ v1 = 4 ∧ ¬ v1 = 5 ∧ ¬ v1 = 6 ∧ ¬ v1 = 7 ∧ ¬ v1 = 8) by omega) with hc | hc | hc | hc | hc
  · replace h := h.1 hc
    refine fb_tsIn (tgt := 52) (51) dd_As_heldBehind_1 q1 (by omega) (by omega) (by rw [hc]; rfl) rfl ?_
    refine fb_iload_n dd_As_heldBehind_52 rfl (fb_sipush dd_As_heldBehind_53 (by decide) ?_)
    obtain ⟨q2, h⟩ := h
    refine fb_icmp_ge (tgt := 63) dd_As_heldBehind_56 rfl q2 (by decide) (fun hc => ?_) (fun hc => ?_)
    · replace h := h.1 hc
      refine fb_iconst dd_As_heldBehind_63 ?_
      exact fb_iret dd_As_heldBehind_64 rfl h
    · replace h := h.2 hc
      refine fb_iload_n dd_As_heldBehind_59 rfl (fb_goto (tgt := 64) dd_As_heldBehind_60 rfl ?_)
      exact fb_iret dd_As_heldBehind_64 rfl h
  · replace h := h.2.1 hc
    refine fb_tsIn (tgt := 65) (64) dd_As_heldBehind_1 q1 (by omega) (by omega) (by rw [hc]; rfl) rfl ?_
    refine fb_iload_n dd_As_heldBehind_65 rfl (fb_sipush dd_As_heldBehind_66 (by decide) ?_)
    obtain ⟨q3, h⟩ := h
    refine fb_icmp_ge (tgt := 76) dd_As_heldBehind_69 rfl q3 (by decide) (fun hc => ?_) (fun hc => ?_)
    · replace h := h.1 hc
      refine fb_aload_n dd_As_heldBehind_76 rfl (by decide) (fb_getI (x := σ.1 106) 3 10 dd_As_heldBehind_77 rfl rfl rfl (by decide) lk_As_93 rfl ?_)
      exact fb_iret dd_As_heldBehind_80 rfl h
    · replace h := h.2 hc
      refine fb_iload_n dd_As_heldBehind_72 rfl (fb_goto (tgt := 80) dd_As_heldBehind_73 rfl ?_)
      exact fb_iret dd_As_heldBehind_80 rfl h
  · replace h := h.2.2.1 hc
    refine fb_tsIn (tgt := 81) (80) dd_As_heldBehind_1 q1 (by omega) (by omega) (by rcases hc with hc | hc | hc | hc | hc <;> rw [hc] <;> rfl) rfl ?_
    refine fb_iconst dd_As_heldBehind_81 ?_
    exact fb_iret dd_As_heldBehind_82 rfl h
  · replace h := h.2.2.2.1 hc
    refine fb_tsIn (tgt := 83) (82) dd_As_heldBehind_1 q1 (by omega) (by omega) (by rcases hc with hc | hc <;> rw [hc] <;> rfl) rfl ?_
    refine fb_iload_n dd_As_heldBehind_83 rfl (fb_aload_n dd_As_heldBehind_84 rfl (by decide) (fb_getI (x := σ.1 106) 3 10 dd_As_heldBehind_85 rfl rfl rfl (by decide) lk_As_93 rfl ?_))
    obtain ⟨q4, h⟩ := h
    obtain ⟨q5, h⟩ := h
    refine fb_icmp_ne (tgt := 95) dd_As_heldBehind_88 rfl q4 q5 (fun hc => ?_) (fun hc => ?_)
    · replace h := h.1 hc
      refine fb_aload_n dd_As_heldBehind_95 rfl (by decide) (fb_getI (x := σ.1 106) 3 10 dd_As_heldBehind_96 rfl rfl rfl (by decide) lk_As_93 rfl ?_)
      exact fb_iret dd_As_heldBehind_99 rfl h
    · replace h := h.2 hc
      refine fb_iconst dd_As_heldBehind_91 (fb_goto (tgt := 99) dd_As_heldBehind_92 rfl ?_)
      exact fb_iret dd_As_heldBehind_99 rfl h
  · replace h := h.2.2.2.2 hc
    refine fb_tsOut (tgt := 100) dd_As_heldBehind_1 q1 (by omega) rfl ?_
    refine fb_aload_n dd_As_heldBehind_100 rfl (by decide) (fb_getI (x := σ.1 106) 3 10 dd_As_heldBehind_101 rfl rfl rfl (by decide) lk_As_93 rfl ?_)
    exact fb_iret dd_As_heldBehind_104 rfl h

theorem As_emitAlone_b0 {E : fb_E} {σ : fb_S} {Q : Int → fb_S → Prop} (v1 : Int) (h : fb_V E fb_As_put 0 [.inr 3, .inl ((8 * v1) + 0)] [] σ (fun _ s2 => Q 0 s2)) : fb_V E fb_As_emitAlone 0 [.inr 3, .inl v1] [] σ Q := by
  refine fb_aload_n dd_As_emitAlone_0 rfl (by decide) (fb_bipush dd_As_emitAlone_1 (by decide) (fb_iload_n dd_As_emitAlone_3 rfl (fb_imul dd_As_emitAlone_4 (fb_iconst dd_As_emitAlone_5 (fb_iadd dd_As_emitAlone_6 ?_)))))
  refine fb_callVv (z := fb_As_put) (k := 3) (vs := [.inl ((8 * v1) + 0)]) (st := []) dd_As_emitAlone_7 vw_As_176 (by decide) rfl rfl rfl (np := 1) (by decide +kernel) rfl rfl rfl rfl rfl (fb_mono h (fun r1 s2 h => ?_))
  exact fb_vret dd_As_emitAlone_10 rfl h

theorem As_emitJump_b0 {E : fb_E} {σ : fb_S} {Q : Int → fb_S → Prop} (v1 v2 : Int) (h : fb_V E fb_As_put 0 [.inr 3, .inl ((8 * v1) + 7)] [] σ (fun _ s2 => fb_V E fb_As_put 0 [.inr 3, .inl (v2 % 256)] [] s2 (fun _ s4 => (-2147483648 ≤ v2 ∧ v2 < 2147483648) ∧ (fb_V E fb_As_put 0 [.inr 3, .inl (v2 / 256)] [] s4 (fun _ s7 => Q 0 s7))))) : fb_V E fb_As_emitJump 0 [.inr 3, .inl v1, .inl v2] [] σ Q := by
  refine fb_aload_n dd_As_emitJump_0 rfl (by decide) (fb_bipush dd_As_emitJump_1 (by decide) (fb_iload_n dd_As_emitJump_3 rfl (fb_imul dd_As_emitJump_4 (fb_bipush dd_As_emitJump_5 (by decide) (fb_iadd dd_As_emitJump_7 ?_)))))
  refine fb_callVv (z := fb_As_put) (k := 3) (vs := [.inl ((8 * v1) + 7)]) (st := []) dd_As_emitJump_8 vw_As_176 (by decide) rfl rfl rfl (np := 1) (by decide +kernel) rfl rfl rfl rfl rfl (fb_mono h (fun r1 s2 h => ?_))
  refine fb_aload_n dd_As_emitJump_11 rfl (by decide) (fb_iload_n dd_As_emitJump_12 rfl (fb_sipush dd_As_emitJump_13 (by decide) (fb_iandM 8 (p := 256) (by decide) (by decide) (by decide) dd_As_emitJump_16 ?_)))
  refine fb_callVv (z := fb_As_put) (k := 3) (vs := [.inl (v2 % 256)]) (st := []) dd_As_emitJump_17 vw_As_176 (by decide) rfl rfl rfl (np := 1) (by decide +kernel) rfl rfl rfl rfl rfl (fb_mono h (fun r3 s4 h => ?_))
  refine fb_aload_n dd_As_emitJump_20 rfl (by decide) (fb_iload_n dd_As_emitJump_21 rfl (fb_bipush dd_As_emitJump_22 (by decide) ?_))
  obtain ⟨q5, h⟩ := h
  refine fb_ishrC 8 (p := 256) (by decide) (by decide) (by decide) dd_As_emitJump_24 q5 ?_
  refine fb_callVv (z := fb_As_put) (k := 3) (vs := [.inl (v2 / 256)]) (st := []) dd_As_emitJump_25 vw_As_176 (by decide) rfl rfl rfl (np := 1) (by decide +kernel) rfl rfl rfl rfl rfl (fb_mono h (fun r6 s7 h => ?_))
  exact fb_vret dd_As_emitJump_28 rfl h

theorem As_emitBranch_b0 {E : fb_E} {σ : fb_S} {Q : Int → fb_S → Prop} (v1 v2 : Int) (h : fb_V E fb_Pr_goalOf 0 [.inr 1, .inl v2] [] σ (fun r1 s2 => (0 ≤ r1 ∧ r1 < 60) ∧ ((0 ≤ v2 ∧ v2 < 60) ∧ ((-2147483648 ≤ (s2.2 36 v2) ∧ (s2.2 36 v2) < 2147483648) ∧ (((s2.2 36 v2) = 0 → fb_V E fb_As_put 0 [.inr 3, .inl ((8 * v1) + 6)] [] (fb_sm s2 34 v2 (s2.1 104)) (fun _ s7 => fb_V E fb_As_put 0 [.inr 3, .inl (((s2.2 33 r1) - ((s7.2 34 v2) + 2)) % 256)] [] s7 (fun _ s9 => Q 0 s9))) ∧ (¬ (s2.2 36 v2) = 0 → fb_V E fb_As_opposite 0 [.inl v1] [] (fb_sm s2 34 v2 (s2.1 104)) (fun r10 s11 => fb_V E fb_As_put 0 [.inr 3, .inl ((8 * r10) + 6)] [] s11 (fun _ s13 => fb_V E fb_As_put 0 [.inr 3, .inl 3] [] s13 (fun _ s15 => fb_V E fb_As_emitJump 0 [.inr 3, .inl 18, .inl (s2.2 33 r1)] [] s15 (fun _ s17 => Q 0 s17)))))))))) : fb_V E fb_As_emitBranch 0 [.inr 3, .inl v1, .inl v2, .inr 999] [] σ Q := by
  refine fb_aload_n dd_As_emitBranch_0 rfl (by decide) (fb_getR 3 4 dd_As_emitBranch_1 rfl rfl rfl (by decide) lk_As_18 (fb_aload_n dd_As_emitBranch_4 rfl (by decide) (fb_getR 3 0 dd_As_emitBranch_5 rfl rfl rfl (by decide) lk_As_31 (fb_iload_n dd_As_emitBranch_8 rfl ?_))))
  refine fb_callVi (z := fb_Pr_goalOf) (k := 1) (vs := [.inl v2]) (st := [.inr 33]) dd_As_emitBranch_9 vw_As_65 (by decide) ⟨_, rfl⟩ rfl rfl (np := 1) (by decide +kernel) rfl rfl rfl rfl rfl (fb_mono h (fun r1 s2 h => ?_))
  obtain ⟨q3, h⟩ := h
  refine fb_ild (x := s2.2 33 r1) dd_As_emitBranch_12 rfl q3 rfl (fb_istore_n dd_As_emitBranch_13 rfl rfl rfl (fb_aload_n dd_As_emitBranch_14 rfl (by decide) (fb_getR 3 5 dd_As_emitBranch_15 rfl rfl rfl (by decide) lk_As_21 (fb_iload_n dd_As_emitBranch_18 rfl (fb_aload_n dd_As_emitBranch_19 rfl (by decide) (fb_getI (x := s2.1 104) 3 8 dd_As_emitBranch_20 rfl rfl rfl (by decide) lk_As_87 rfl ?_))))))
  obtain ⟨q4, h⟩ := h
  refine fb_ist dd_As_emitBranch_23 rfl q4 (fb_aload_n dd_As_emitBranch_24 rfl (by decide) (fb_getR 3 7 dd_As_emitBranch_25 rfl rfl rfl (by decide) lk_As_28 (fb_iload_n dd_As_emitBranch_28 rfl (fb_zld (x := s2.2 36 v2) dd_As_emitBranch_29 rfl q4 rfl ?_))))
  obtain ⟨q5, h⟩ := h
  refine fb_if_eq (tgt := 62) dd_As_emitBranch_30 rfl q5 (fun hc => ?_) (fun hc => ?_)
  · replace h := h.1 hc
    refine fb_aload_n dd_As_emitBranch_62 rfl (by decide) (fb_bipush dd_As_emitBranch_63 (by decide) (fb_iload_n dd_As_emitBranch_65 rfl (fb_imul dd_As_emitBranch_66 (fb_bipush dd_As_emitBranch_67 (by decide) (fb_iadd dd_As_emitBranch_69 ?_)))))
    refine fb_callVv (z := fb_As_put) (k := 3) (vs := [.inl ((8 * v1) + 6)]) (st := []) dd_As_emitBranch_70 vw_As_176 (by decide) rfl rfl rfl (np := 1) (by decide +kernel) rfl rfl rfl rfl rfl (fb_mono h (fun r6 s7 h => ?_))
    refine fb_aload_n dd_As_emitBranch_73 rfl (by decide) (fb_iload_n dd_As_emitBranch_74 rfl (fb_aload_n dd_As_emitBranch_75 rfl (by decide) (fb_getR 3 5 dd_As_emitBranch_76 rfl rfl rfl (by decide) lk_As_21 (fb_iload_n dd_As_emitBranch_79 rfl (fb_ild (x := s7.2 34 v2) dd_As_emitBranch_80 rfl q4 rfl (fb_iconst dd_As_emitBranch_81 (fb_iadd dd_As_emitBranch_82 ?_)))))))
    refine fb_isub dd_As_emitBranch_83 (fb_sipush dd_As_emitBranch_84 (by decide) (fb_iandM 8 (p := 256) (by decide) (by decide) (by decide) dd_As_emitBranch_87 ?_))
    refine fb_callVv (z := fb_As_put) (k := 3) (vs := [.inl (((s2.2 33 r1) - ((s7.2 34 v2) + 2)) % 256)]) (st := []) dd_As_emitBranch_88 vw_As_176 (by decide) rfl rfl rfl (np := 1) (by decide +kernel) rfl rfl rfl rfl rfl (fb_mono h (fun r8 s9 h => ?_))
    exact fb_vret dd_As_emitBranch_91 rfl h
  · replace h := h.2 hc
    refine fb_aload_n dd_As_emitBranch_33 rfl (by decide) (fb_bipush dd_As_emitBranch_34 (by decide) (fb_iload_n dd_As_emitBranch_36 rfl ?_))
    refine fb_callSi (z := fb_As_opposite) (vs := [.inl v1]) (st := [.inl 8, .inr 3]) dd_As_emitBranch_37 sw_As_188 (by decide) ⟨_, rfl⟩ (np := 1) (by decide +kernel) rfl rfl rfl rfl rfl (fb_mono h (fun r10 s11 h => ?_))
    refine fb_imul dd_As_emitBranch_40 (fb_bipush dd_As_emitBranch_41 (by decide) (fb_iadd dd_As_emitBranch_43 ?_))
    refine fb_callVv (z := fb_As_put) (k := 3) (vs := [.inl ((8 * r10) + 6)]) (st := []) dd_As_emitBranch_44 vw_As_176 (by decide) rfl rfl rfl (np := 1) (by decide +kernel) rfl rfl rfl rfl rfl (fb_mono h (fun r12 s13 h => ?_))
    refine fb_aload_n dd_As_emitBranch_47 rfl (by decide) (fb_iconst dd_As_emitBranch_48 ?_)
    refine fb_callVv (z := fb_As_put) (k := 3) (vs := [.inl 3]) (st := []) dd_As_emitBranch_49 vw_As_176 (by decide) rfl rfl rfl (np := 1) (by decide +kernel) rfl rfl rfl rfl rfl (fb_mono h (fun r14 s15 h => ?_))
    refine fb_aload_n dd_As_emitBranch_52 rfl (by decide) (fb_bipush dd_As_emitBranch_53 (by decide) (fb_iload_n dd_As_emitBranch_55 rfl ?_))
    refine fb_callVv (z := fb_As_emitJump) (k := 3) (vs := [.inl 18, .inl (s2.2 33 r1)]) (st := []) dd_As_emitBranch_56 vw_As_135 (by decide) rfl rfl rfl (np := 2) (by decide +kernel) rfl rfl rfl rfl rfl (fb_mono h (fun r16 s17 h => ?_))
    refine fb_goto (tgt := 91) dd_As_emitBranch_59 rfl ?_
    exact fb_vret dd_As_emitBranch_91 rfl h

theorem As_opposite_b0 {E : fb_E} {σ : fb_S} {Q : Int → fb_S → Prop} (v0 : Int) (h : (-2147483648 ≤ v0 ∧ v0 < 2147483648) ∧ ((¬ v0 = 14 → Q 17 σ) ∧ (v0 = 14 → Q 15 σ))) : fb_V E fb_As_opposite 0 [.inl v0] [] σ Q := by
  refine fb_iload_n dd_As_opposite_0 rfl (fb_bipush dd_As_opposite_1 (by decide) ?_)
  obtain ⟨q1, h⟩ := h
  refine fb_icmp_ne (tgt := 11) dd_As_opposite_3 rfl q1 (by decide) (fun hc => ?_) (fun hc => ?_)
  · replace h := h.1 hc
    refine fb_bipush dd_As_opposite_11 (by decide) ?_
    exact fb_iret dd_As_opposite_13 rfl h
  · replace h := h.2 hc
    refine fb_bipush dd_As_opposite_6 (by decide) (fb_goto (tgt := 13) dd_As_opposite_8 rfl ?_)
    exact fb_iret dd_As_opposite_13 rfl h

theorem As_put_b0 {E : fb_E} {σ : fb_S} {Q : Int → fb_S → Prop} (v1 : Int) (h : (-2147483648 ≤ (σ.1 104) ∧ (σ.1 104) < 2147483648) ∧ ((500 ≤ (σ.1 104) → Q 0 (fb_sg σ 104 ((σ.1 104) + 1))) ∧ (¬ 500 ≤ (σ.1 104) → (0 ≤ (σ.1 104) ∧ (σ.1 104) < 500) ∧ (Q 0 (fb_sg (fb_sm σ 31 (σ.1 104) v1) 104 ((σ.1 104) + 1)))))) : fb_V E fb_As_put 0 [.inr 3, .inl v1] [] σ Q := by
  refine fb_aload_n dd_As_put_0 rfl (by decide) (fb_getI (x := σ.1 104) 3 8 dd_As_put_1 rfl rfl rfl (by decide) lk_As_87 rfl (fb_sipush dd_As_put_4 (by decide) ?_))
  obtain ⟨q1, h⟩ := h
  refine fb_icmp_ge (tgt := 20) dd_As_put_7 rfl q1 (by decide) (fun hc => ?_) (fun hc => ?_)
  · replace h := h.1 hc
    refine fb_aload_n dd_As_put_20 rfl (by decide) (fb_dup dd_As_put_21 (fb_getI (x := σ.1 104) 3 8 dd_As_put_22 rfl rfl rfl (by decide) lk_As_87 rfl (fb_iconst dd_As_put_25 (fb_iadd dd_As_put_26 (fb_putI 3 8 dd_As_put_27 rfl rfl rfl (by decide) rfl (by decide +kernel) lk_As_87 ?_)))))
    exact fb_vret dd_As_put_30 rfl h
  · replace h := h.2 hc
    refine fb_aload_n dd_As_put_10 rfl (by decide) (fb_getR 3 2 dd_As_put_11 rfl rfl rfl (by decide) lk_As_9 (fb_aload_n dd_As_put_14 rfl (by decide) (fb_getI (x := σ.1 104) 3 8 dd_As_put_15 rfl rfl rfl (by decide) lk_As_87 rfl (fb_iload_n dd_As_put_18 rfl ?_))))
    obtain ⟨q2, h⟩ := h
    refine fb_ist dd_As_put_19 rfl q2 (fb_aload_n dd_As_put_20 rfl (by decide) (fb_dup dd_As_put_21 (fb_getI (x := σ.1 104) 3 8 dd_As_put_22 rfl rfl rfl (by decide) lk_As_87 rfl (fb_iconst dd_As_put_25 (fb_iadd dd_As_put_26 (fb_putI 3 8 dd_As_put_27 rfl rfl rfl (by decide) rfl (by decide +kernel) lk_As_87 ?_))))))
    exact fb_vret dd_As_put_30 rfl h
