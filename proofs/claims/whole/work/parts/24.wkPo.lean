theorem Po_drop_b0 {E : fb_E} {σ : fb_S} {Q : Int → fb_S → Prop} (h : Q 0 (fb_sg (fb_sg (fb_sg σ 133 (-1)) 134 0) 135 0)) : fb_V E fb_Po_drop 0 [.inr 4] [] σ Q := by
  refine fb_aload_n dd_Po_drop_0 rfl (by decide) (fb_iconst dd_Po_drop_1 (fb_putI 4 5 dd_Po_drop_2 rfl rfl rfl (by decide) rfl (by decide +kernel) lk_Po_21 (fb_aload_n dd_Po_drop_5 rfl (by decide) (fb_iconst dd_Po_drop_6 (fb_putI 4 6 dd_Po_drop_7 rfl rfl rfl (by decide) rfl (by decide +kernel) lk_Po_29 (fb_aload_n dd_Po_drop_10 rfl (by decide) (fb_iconst dd_Po_drop_11 ?_)))))))
  refine fb_putI 4 7 dd_Po_drop_12 rfl rfl rfl (by decide) rfl (by decide +kernel) lk_Po_32 ?_
  exact fb_vret dd_Po_drop_15 rfl h

theorem Po_begin_b0 {E : fb_E} {σ : fb_S} {Q : Int → fb_S → Prop} (h : fb_V E fb_Ja_fill 0 [.inr 37, .inl 0, .inr 999, .inr 999] [] σ (fun _ s2 => Q 0 (fb_sg (fb_sg (fb_sg (fb_sg (fb_sg (fb_sg (fb_sg (fb_sg (fb_sg s2 133 0) 134 0) 135 0) 132 0) 136 0) 137 0) 138 0) 139 0) 140 0))) : fb_V E fb_Po_begin 0 [.inr 4] [] σ Q := by
  refine fb_aload_n dd_Po_begin_0 rfl (by decide) (fb_getR 4 1 dd_Po_begin_1 rfl rfl rfl (by decide) lk_Po_9 (fb_iconst dd_Po_begin_4 ?_))
  refine fb_callSv (z := fb_Ja_fill) (vs := [.inr 37, .inl 0]) (st := []) dd_Po_begin_5 sw_Po_35 (by decide) rfl (np := 2) (by decide +kernel) rfl rfl rfl rfl rfl (fb_mono h (fun r1 s2 h => ?_))
  refine fb_aload_n dd_Po_begin_8 rfl (by decide) (fb_iconst dd_Po_begin_9 (fb_putI 4 5 dd_Po_begin_10 rfl rfl rfl (by decide) rfl (by decide +kernel) lk_Po_21 (fb_aload_n dd_Po_begin_13 rfl (by decide) (fb_iconst dd_Po_begin_14 (fb_putI 4 6 dd_Po_begin_15 rfl rfl rfl (by decide) rfl (by decide +kernel) lk_Po_29 (fb_aload_n dd_Po_begin_18 rfl (by decide) (fb_iconst dd_Po_begin_19 ?_)))))))
  refine fb_putI 4 7 dd_Po_begin_20 rfl rfl rfl (by decide) rfl (by decide +kernel) lk_Po_32 (fb_aload_n dd_Po_begin_23 rfl (by decide) (fb_iconst dd_Po_begin_24 (fb_putI 4 4 dd_Po_begin_25 rfl rfl rfl (by decide) rfl (by decide +kernel) lk_Po_41 (fb_aload_n dd_Po_begin_28 rfl (by decide) (fb_iconst dd_Po_begin_29 (fb_putI 4 8 dd_Po_begin_30 rfl rfl rfl (by decide) rfl (by decide +kernel) lk_Po_44 (fb_aload_n dd_Po_begin_33 rfl (by decide) ?_)))))))
  refine fb_iconst dd_Po_begin_34 (fb_putI 4 9 dd_Po_begin_35 rfl rfl rfl (by decide) rfl (by decide +kernel) lk_Po_47 (fb_aload_n dd_Po_begin_38 rfl (by decide) (fb_iconst dd_Po_begin_39 (fb_putI 4 10 dd_Po_begin_40 rfl rfl rfl (by decide) rfl (by decide +kernel) lk_Po_50 (fb_aload_n dd_Po_begin_43 rfl (by decide) (fb_iconst dd_Po_begin_44 (fb_putI 4 11 dd_Po_begin_45 rfl rfl rfl (by decide) rfl (by decide +kernel) lk_Po_53 ?_)))))))
  refine fb_aload_n dd_Po_begin_48 rfl (by decide) (fb_iconst dd_Po_begin_49 (fb_putZ 4 12 dd_Po_begin_50 (by decide) rfl rfl rfl (by decide) rfl (by decide +kernel) lk_Po_56 ?_))
  exact fb_vret dd_Po_begin_53 rfl h

theorem Po_label_b0 {E : fb_E} {σ : fb_S} {Q : Int → fb_S → Prop} (h : (-2147483648 ≤ (σ.1 133) ∧ (σ.1 133) < 2147483648) ∧ ((¬ (σ.1 133) = 0 → Q (-1) σ) ∧ ((σ.1 133) = 0 → fb_V E fb_Po_labelHere 0 [.inr 4] [] σ (fun r2 s3 => Q r2 s3)))) : fb_V E fb_Po_label 0 [.inr 4] [] σ Q := by
  refine fb_aload_n dd_Po_label_0 rfl (by decide) (fb_getI (x := σ.1 133) 4 5 dd_Po_label_1 rfl rfl rfl (by decide) lk_Po_21 rfl ?_)
  obtain ⟨q1, h⟩ := h
  refine fb_if_ne (tgt := 14) dd_Po_label_4 rfl q1 (fun hc => ?_) (fun hc => ?_)
  · replace h := h.1 hc
    refine fb_iconst dd_Po_label_14 ?_
    exact fb_iret dd_Po_label_15 rfl h
  · replace h := h.2 hc
    refine fb_aload_n dd_Po_label_7 rfl (by decide) ?_
    refine fb_callVi (z := fb_Po_labelHere) (k := 4) (vs := []) (st := []) dd_Po_label_8 vw_Po_60 (by decide) ⟨_, rfl⟩ rfl rfl (np := 0) (by decide +kernel) rfl rfl rfl rfl rfl (fb_mono h (fun r2 s3 h => ?_))
    refine fb_goto (tgt := 15) dd_Po_label_11 rfl ?_
    exact fb_iret dd_Po_label_15 rfl h

theorem Po_labelHere_b0 {E : fb_E} {σ : fb_S} {Q : Int → fb_S → Prop} (h : (-2147483648 ≤ (σ.1 136) ∧ (σ.1 136) < 2147483648) ∧ (((σ.1 136) < 0 → Q (-1) σ) ∧ (¬ (σ.1 136) < 0 → (500 ≤ (σ.1 136) → Q (-1) σ) ∧ (¬ 500 ≤ (σ.1 136) → (0 ≤ (σ.1 136) ∧ (σ.1 136) < 500) ∧ (Q (σ.2 32 (σ.1 136)) σ))))) : fb_V E fb_Po_labelHere 0 [.inr 4] [] σ Q := by
  refine fb_aload_n dd_Po_labelHere_0 rfl (by decide) (fb_getI (x := σ.1 136) 4 8 dd_Po_labelHere_1 rfl rfl rfl (by decide) lk_Po_44 rfl ?_)
  obtain ⟨q1, h⟩ := h
  refine fb_if_lt (tgt := 32) dd_Po_labelHere_4 rfl q1 (fun hc => ?_) (fun hc => ?_)
  · replace h := h.1 hc
    refine fb_iconst dd_Po_labelHere_32 ?_
    exact fb_iret dd_Po_labelHere_33 rfl h
  · replace h := h.2 hc
    refine fb_aload_n dd_Po_labelHere_7 rfl (by decide) (fb_getI (x := σ.1 136) 4 8 dd_Po_labelHere_8 rfl rfl rfl (by decide) lk_Po_44 rfl (fb_sipush dd_Po_labelHere_11 (by decide) ?_))
    refine fb_icmp_ge (tgt := 32) dd_Po_labelHere_14 rfl q1 (by decide) (fun hc => ?_) (fun hc => ?_)
    · replace h := h.1 hc
      refine fb_iconst dd_Po_labelHere_32 ?_
      exact fb_iret dd_Po_labelHere_33 rfl h
    · replace h := h.2 hc
      refine fb_aload_n dd_Po_labelHere_17 rfl (by decide) (fb_getR 4 0 dd_Po_labelHere_18 rfl rfl rfl (by decide) lk_Po_25 (fb_getR 3 3 dd_Po_labelHere_21 rfl rfl rfl (by decide) lk_Po_64 (fb_aload_n dd_Po_labelHere_24 rfl (by decide) (fb_getI (x := σ.1 136) 4 8 dd_Po_labelHere_25 rfl rfl rfl (by decide) lk_Po_44 rfl ?_))))
      obtain ⟨q2, h⟩ := h
      refine fb_ild (x := σ.2 32 (σ.1 136)) dd_Po_labelHere_28 rfl q2 rfl (fb_goto (tgt := 33) dd_Po_labelHere_29 rfl ?_)
      exact fb_iret dd_Po_labelHere_33 rfl h

theorem Po_perform_b0 {E : fb_E} {σ : fb_S} {Q : Int → fb_S → Prop} (v1 : Int) (h : fb_V E fb_Po_perform 2 [.inr 4, .inl v1, .inl 0] [] σ Q) : fb_V E fb_Po_perform 0 [.inr 4, .inl v1, .inr 999] [] σ Q := by
  refine fb_iconst dd_Po_perform_0 (fb_istore_n dd_Po_perform_1 rfl rfl rfl ?_)
  exact h
theorem Po_perform_b2 {E : fb_E} {σ : fb_S} {Q : Int → fb_S → Prop} (v1 v2 : Int) (h : (-2147483648 ≤ v2 ∧ v2 < 2147483648) ∧ ((-2147483648 ≤ v1 ∧ v1 < 2147483648) ∧ ((v1 ≤ v2 → Q v2 σ) ∧ (¬ v1 ≤ v2 → (-2147483648 ≤ (σ.1 133) ∧ (σ.1 133) < 2147483648) ∧ ((¬ (σ.1 133) = 0 → Q v2 σ) ∧ ((σ.1 133) = 0 → fb_V E fb_Po_performOne 0 [.inr 4, .inr 999, .inr 999] [] σ (fun _ s5 => fb_V E fb_Po_perform 2 [.inr 4, .inl v1, .inl (v2 + 1)] [] s5 Q))))))) : fb_V E fb_Po_perform 2 [.inr 4, .inl v1, .inl v2] [] σ Q := by
  refine fb_iload_n dd_Po_perform_2 rfl (fb_iload_n dd_Po_perform_3 rfl ?_)
  obtain ⟨q1, h⟩ := h
  obtain ⟨q2, h⟩ := h
  refine fb_icmp_ge (tgt := 24) dd_Po_perform_4 rfl q1 q2 (fun hc => ?_) (fun hc => ?_)
  · replace h := h.1 hc
    refine fb_iload_n dd_Po_perform_24 rfl ?_
    exact fb_iret dd_Po_perform_25 rfl h
  · replace h := h.2 hc
    refine fb_aload_n dd_Po_perform_7 rfl (by decide) (fb_getI (x := σ.1 133) 4 5 dd_Po_perform_8 rfl rfl rfl (by decide) lk_Po_21 rfl ?_)
    obtain ⟨q3, h⟩ := h
    refine fb_if_ne (tgt := 24) dd_Po_perform_11 rfl q3 (fun hc => ?_) (fun hc => ?_)
    · replace h := h.1 hc
      refine fb_iload_n dd_Po_perform_24 rfl ?_
      exact fb_iret dd_Po_perform_25 rfl h
    · replace h := h.2 hc
      refine fb_aload_n dd_Po_perform_14 rfl (by decide) ?_
      refine fb_callVv (z := fb_Po_performOne) (k := 4) (vs := []) (st := []) dd_Po_perform_15 vw_Po_69 (by decide) rfl rfl rfl (np := 0) (by decide +kernel) rfl rfl rfl rfl rfl (fb_mono h (fun r4 s5 h => ?_))
      refine fb_iinc dd_Po_perform_18 rfl rfl rfl (fb_goto (tgt := 2) dd_Po_perform_21 rfl ?_)
      exact h

theorem Po_performOne_b0 {E : fb_E} {σ : fb_S} {Q : Int → fb_S → Prop} (h : fb_V E fb_Po_performOne 4 [.inr 4, .inl 1, .inl 0] [] σ Q) : fb_V E fb_Po_performOne 0 [.inr 4, .inr 999, .inr 999] [] σ Q := by
  refine fb_iconst dd_Po_performOne_0 (fb_istore_n dd_Po_performOne_1 rfl rfl rfl (fb_iconst dd_Po_performOne_2 (fb_istore_n dd_Po_performOne_3 rfl rfl rfl ?_)))
  exact h
theorem Po_performOne_b4 {E : fb_E} {σ : fb_S} {Q : Int → fb_S → Prop} (v1 v2 : Int) (h : (-2147483648 ≤ v2 ∧ v2 < 2147483648) ∧ ((64 ≤ v2 → Q 0 σ) ∧ (¬ 64 ≤ v2 → (-2147483648 ≤ v1 ∧ v1 < 2147483648) ∧ ((v1 = 0 → Q 0 σ) ∧ (¬ v1 = 0 → fb_V E fb_Po_step 0 [.inr 4, .inr 999, .inr 999, .inr 999] [] σ (fun _ s4 => (-2147483648 ≤ (s4.1 133) ∧ (s4.1 133) < 2147483648) ∧ ((¬ (s4.1 133) = 0 → fb_V E fb_Po_performOne 4 [.inr 4, .inl 0, .inl (v2 + 1)] [] s4 Q) ∧ ((s4.1 133) = 0 → fb_V E fb_Po_labelHere 0 [.inr 4] [] s4 (fun r6 s7 => (-2147483648 ≤ r6 ∧ r6 < 2147483648) ∧ ((¬ r6 = (-1) → fb_V E fb_Po_performOne 4 [.inr 4, .inl 0, .inl (v2 + 1)] [] s7 Q) ∧ (r6 = (-1) → fb_V E fb_Po_performOne 4 [.inr 4, .inl 1, .inl (v2 + 1)] [] s7 Q))))))))))) : fb_V E fb_Po_performOne 4 [.inr 4, .inl v1, .inl v2] [] σ Q := by
  refine fb_iload_n dd_Po_performOne_4 rfl (fb_bipush dd_Po_performOne_5 (by decide) ?_)
  obtain ⟨q1, h⟩ := h
  refine fb_icmp_ge (tgt := 45) dd_Po_performOne_7 rfl q1 (by decide) (fun hc => ?_) (fun hc => ?_)
  · replace h := h.1 hc
    exact fb_vret dd_Po_performOne_45 rfl h
  · replace h := h.2 hc
    refine fb_iload_n dd_Po_performOne_10 rfl ?_
    obtain ⟨q2, h⟩ := h
    refine fb_if_eq (tgt := 45) dd_Po_performOne_11 rfl q2 (fun hc => ?_) (fun hc => ?_)
    · replace h := h.1 hc
      exact fb_vret dd_Po_performOne_45 rfl h
    · replace h := h.2 hc
      refine fb_aload_n dd_Po_performOne_14 rfl (by decide) ?_
      refine fb_callVv (z := fb_Po_step) (k := 4) (vs := []) (st := []) dd_Po_performOne_15 vw_Po_72 (by decide) rfl rfl rfl (np := 0) (by decide +kernel) rfl rfl rfl rfl rfl (fb_mono h (fun r3 s4 h => ?_))
      refine fb_aload_n dd_Po_performOne_18 rfl (by decide) (fb_getI (x := s4.1 133) 4 5 dd_Po_performOne_19 rfl rfl rfl (by decide) lk_Po_21 rfl ?_)
      obtain ⟨q5, h⟩ := h
      refine fb_if_ne (tgt := 37) dd_Po_performOne_22 rfl q5 (fun hc => ?_) (fun hc => ?_)
      · replace h := h.1 hc
        refine fb_iconst dd_Po_performOne_37 (fb_istore_n dd_Po_performOne_38 rfl rfl rfl (fb_iinc dd_Po_performOne_39 rfl rfl rfl (fb_goto (tgt := 4) dd_Po_performOne_42 rfl ?_)))
        exact h
      · replace h := h.2 hc
        refine fb_aload_n dd_Po_performOne_25 rfl (by decide) ?_
        refine fb_callVi (z := fb_Po_labelHere) (k := 4) (vs := []) (st := []) dd_Po_performOne_26 vw_Po_60 (by decide) ⟨_, rfl⟩ rfl rfl (np := 0) (by decide +kernel) rfl rfl rfl rfl rfl (fb_mono h (fun r6 s7 h => ?_))
        refine fb_iconst dd_Po_performOne_29 ?_
        obtain ⟨q8, h⟩ := h
        refine fb_icmp_ne (tgt := 37) dd_Po_performOne_30 rfl q8 (by decide) (fun hc => ?_) (fun hc => ?_)
        · replace h := h.1 hc
          refine fb_iconst dd_Po_performOne_37 (fb_istore_n dd_Po_performOne_38 rfl rfl rfl (fb_iinc dd_Po_performOne_39 rfl rfl rfl (fb_goto (tgt := 4) dd_Po_performOne_42 rfl ?_)))
          exact h
        · replace h := h.2 hc
          refine fb_iconst dd_Po_performOne_33 (fb_goto (tgt := 38) dd_Po_performOne_34 rfl (fb_istore_n dd_Po_performOne_38 rfl rfl rfl (fb_iinc dd_Po_performOne_39 rfl rfl rfl (fb_goto (tgt := 4) dd_Po_performOne_42 rfl ?_))))
          exact h

theorem Po_step_b0 {E : fb_E} {σ : fb_S} {Q : Int → fb_S → Prop} (h : fb_V E fb_Po_fetch 0 [.inr 4, .inr 999] [] σ (fun r1 s2 => (-2147483648 ≤ r1 ∧ r1 < 2147483648) ∧ ((-2147483648 ≤ (r1 / 8) ∧ (r1 / 8) < 2147483648) ∧ ((11 < (r1 / 8) → (-2147483648 ≤ (r1 % 8) ∧ (r1 % 8) < 2147483648) ∧ ((¬ (r1 % 8) = 6 → (¬ (r1 % 8) = 7 → fb_V E fb_Po_doAlone 0 [.inr 4, .inl (r1 / 8)] [] (fb_sg s2 134 ((s2.1 134) + 1)) (fun _ s7 => Q 0 s7)) ∧ ((r1 % 8) = 7 → fb_V E fb_Po_doJump 0 [.inr 4, .inl (r1 / 8), .inr 999, .inr 999] [] (fb_sg s2 134 ((s2.1 134) + 1)) (fun _ s9 => Q 0 s9))) ∧ ((r1 % 8) = 6 → fb_V E fb_Po_doBranch 0 [.inr 4, .inl (r1 / 8), .inr 999] [] (fb_sg s2 134 ((s2.1 134) + 1)) (fun _ s11 => Q 0 s11)))) ∧ (¬ 11 < (r1 / 8) → fb_V E fb_Po_doWithData 0 [.inr 4, .inl (r1 / 8), .inl (r1 % 8), .inr 999, .inr 999] [] (fb_sg s2 134 ((s2.1 134) + 1)) (fun _ s13 => Q 0 s13)))))) : fb_V E fb_Po_step 0 [.inr 4, .inr 999, .inr 999, .inr 999] [] σ Q := by
  refine fb_aload_n dd_Po_step_0 rfl (by decide) ?_
  refine fb_callVi (z := fb_Po_fetch) (k := 4) (vs := []) (st := []) dd_Po_step_1 vw_Po_75 (by decide) ⟨_, rfl⟩ rfl rfl (np := 0) (by decide +kernel) rfl rfl rfl rfl rfl (fb_mono h (fun r1 s2 h => ?_))
  refine fb_istore_n dd_Po_step_4 rfl rfl rfl (fb_iload_n dd_Po_step_5 rfl (fb_iconst dd_Po_step_6 ?_))
  obtain ⟨q3, h⟩ := h
  refine fb_ishrC 3 (p := 8) (by decide) (by decide) (by decide) dd_Po_step_7 q3 (fb_istore_n dd_Po_step_8 rfl rfl rfl (fb_iload_n dd_Po_step_9 rfl (fb_bipush dd_Po_step_10 (by decide) (fb_iandM 3 (p := 8) (by decide) (by decide) (by decide) dd_Po_step_12 (fb_istore_n dd_Po_step_13 rfl rfl rfl (fb_aload_n dd_Po_step_14 rfl (by decide) (fb_dup dd_Po_step_15 ?_)))))))
  refine fb_getI (x := s2.1 134) 4 6 dd_Po_step_16 rfl rfl rfl (by decide) lk_Po_29 rfl (fb_iconst dd_Po_step_19 (fb_iadd dd_Po_step_20 (fb_putI 4 6 dd_Po_step_21 rfl rfl rfl (by decide) rfl (by decide +kernel) lk_Po_29 (fb_iload_n dd_Po_step_24 rfl (fb_bipush dd_Po_step_25 (by decide) ?_)))))
  obtain ⟨q4, h⟩ := h
  refine fb_icmp_gt (tgt := 39) dd_Po_step_27 rfl q4 (by decide) (fun hc => ?_) (fun hc => ?_)
  · replace h := h.1 hc
    refine fb_iload_n dd_Po_step_39 rfl (fb_bipush dd_Po_step_40 (by decide) ?_)
    obtain ⟨q5, h⟩ := h
    refine fb_icmp_ne (tgt := 53) dd_Po_step_42 rfl q5 (by decide) (fun hc => ?_) (fun hc => ?_)
    · replace h := h.1 hc
      refine fb_iload_n dd_Po_step_53 rfl (fb_bipush dd_Po_step_54 (by decide) ?_)
      refine fb_icmp_ne (tgt := 67) dd_Po_step_56 rfl q5 (by decide) (fun hc => ?_) (fun hc => ?_)
      · replace h := h.1 hc
        refine fb_aload_n dd_Po_step_67 rfl (by decide) (fb_iload_n dd_Po_step_68 rfl ?_)
        refine fb_callVv (z := fb_Po_doAlone) (k := 4) (vs := [.inl (r1 / 8)]) (st := []) dd_Po_step_69 vw_Po_89 (by decide) rfl rfl rfl (np := 1) (by decide +kernel) rfl rfl rfl rfl rfl (fb_mono h (fun r6 s7 h => ?_))
        exact fb_vret dd_Po_step_72 rfl h
      · replace h := h.2 hc
        refine fb_aload_n dd_Po_step_59 rfl (by decide) (fb_iload_n dd_Po_step_60 rfl ?_)
        refine fb_callVv (z := fb_Po_doJump) (k := 4) (vs := [.inl (r1 / 8)]) (st := []) dd_Po_step_61 vw_Po_86 (by decide) rfl rfl rfl (np := 1) (by decide +kernel) rfl rfl rfl rfl rfl (fb_mono h (fun r8 s9 h => ?_))
        refine fb_goto (tgt := 72) dd_Po_step_64 rfl ?_
        exact fb_vret dd_Po_step_72 rfl h
    · replace h := h.2 hc
      refine fb_aload_n dd_Po_step_45 rfl (by decide) (fb_iload_n dd_Po_step_46 rfl ?_)
      refine fb_callVv (z := fb_Po_doBranch) (k := 4) (vs := [.inl (r1 / 8)]) (st := []) dd_Po_step_47 vw_Po_82 (by decide) rfl rfl rfl (np := 1) (by decide +kernel) rfl rfl rfl rfl rfl (fb_mono h (fun r10 s11 h => ?_))
      refine fb_goto (tgt := 72) dd_Po_step_50 rfl ?_
      exact fb_vret dd_Po_step_72 rfl h
  · replace h := h.2 hc
    refine fb_aload_n dd_Po_step_30 rfl (by decide) (fb_iload_n dd_Po_step_31 rfl (fb_iload_n dd_Po_step_32 rfl ?_))
    refine fb_callVv (z := fb_Po_doWithData) (k := 4) (vs := [.inl (r1 / 8), .inl (r1 % 8)]) (st := []) dd_Po_step_33 vw_Po_78 (by decide) rfl rfl rfl (np := 2) (by decide +kernel) rfl rfl rfl rfl rfl (fb_mono h (fun r12 s13 h => ?_))
    refine fb_goto (tgt := 72) dd_Po_step_36 rfl ?_
    exact fb_vret dd_Po_step_72 rfl h

theorem Po_fetch_b0 {E : fb_E} {σ : fb_S} {Q : Int → fb_S → Prop} (h : (-2147483648 ≤ (σ.1 136) ∧ (σ.1 136) < 2147483648) ∧ (((σ.1 136) < 0 → Q 176 (fb_sg σ 136 ((σ.1 136) + 1))) ∧ (¬ (σ.1 136) < 0 → (500 ≤ (σ.1 136) → Q 176 (fb_sg σ 136 ((σ.1 136) + 1))) ∧ (¬ 500 ≤ (σ.1 136) → (0 ≤ (σ.1 136) ∧ (σ.1 136) < 500) ∧ (Q (σ.2 31 (σ.1 136)) (fb_sg σ 136 ((σ.1 136) + 1))))))) : fb_V E fb_Po_fetch 0 [.inr 4, .inr 999] [] σ Q := by
  refine fb_aload_n dd_Po_fetch_0 rfl (by decide) (fb_getI (x := σ.1 136) 4 8 dd_Po_fetch_1 rfl rfl rfl (by decide) lk_Po_44 rfl (fb_istore_n dd_Po_fetch_4 rfl rfl rfl (fb_aload_n dd_Po_fetch_5 rfl (by decide) (fb_dup dd_Po_fetch_6 (fb_getI (x := σ.1 136) 4 8 dd_Po_fetch_7 rfl rfl rfl (by decide) lk_Po_44 rfl (fb_iconst dd_Po_fetch_10 (fb_iadd dd_Po_fetch_11 ?_)))))))
  refine fb_putI 4 8 dd_Po_fetch_12 rfl rfl rfl (by decide) rfl (by decide +kernel) lk_Po_44 (fb_iload_n dd_Po_fetch_15 rfl ?_)
  obtain ⟨q1, h⟩ := h
  refine fb_if_lt (tgt := 38) dd_Po_fetch_16 rfl q1 (fun hc => ?_) (fun hc => ?_)
  · replace h := h.1 hc
    refine fb_sipush dd_Po_fetch_38 (by decide) ?_
    exact fb_iret dd_Po_fetch_41 rfl h
  · replace h := h.2 hc
    refine fb_iload_n dd_Po_fetch_19 rfl (fb_sipush dd_Po_fetch_20 (by decide) ?_)
    refine fb_icmp_ge (tgt := 38) dd_Po_fetch_23 rfl q1 (by decide) (fun hc => ?_) (fun hc => ?_)
    · replace h := h.1 hc
      refine fb_sipush dd_Po_fetch_38 (by decide) ?_
      exact fb_iret dd_Po_fetch_41 rfl h
    · replace h := h.2 hc
      refine fb_aload_n dd_Po_fetch_26 rfl (by decide) (fb_getR 4 0 dd_Po_fetch_27 rfl rfl rfl (by decide) lk_Po_25 (fb_getR 3 2 dd_Po_fetch_30 rfl rfl rfl (by decide) lk_Po_92 (fb_iload_n dd_Po_fetch_33 rfl ?_)))
      obtain ⟨q2, h⟩ := h
      refine fb_ild (x := σ.2 31 (σ.1 136)) dd_Po_fetch_34 rfl q2 rfl (fb_goto (tgt := 41) dd_Po_fetch_35 rfl ?_)
      exact fb_iret dd_Po_fetch_41 rfl h

theorem Po_fetchOperand_b0 {E : fb_E} {σ : fb_S} {Q : Int → fb_S → Prop} (v1 : Int) (h : fb_V E fb_Po_fetch 0 [.inr 4, .inr 999] [] σ (fun r1 s2 => (-2147483648 ≤ v1 ∧ v1 < 2147483648) ∧ ((v1 = 3 → fb_V E fb_Po_fetch 0 [.inr 4, .inr 999] [] s2 (fun r4 s5 => (v1 = 4 → Q ((r1 + (256 * r4)) + (s5.1 138)) s5) ∧ (¬ v1 = 4 → (¬ v1 = 5 → Q (r1 + (256 * r4)) s5) ∧ (v1 = 5 → Q ((r1 + (256 * r4)) + (s5.1 138)) s5)))) ∧ (¬ v1 = 3 → (¬ v1 = 5 → (v1 = 4 → Q (r1 + (s2.1 138)) s2) ∧ (¬ v1 = 4 → (¬ v1 = 5 → Q r1 s2) ∧ (v1 = 5 → Q (r1 + (s2.1 138)) s2))) ∧ (v1 = 5 → fb_V E fb_Po_fetch 0 [.inr 4, .inr 999] [] s2 (fun r6 s7 => (v1 = 4 → Q ((r1 + (256 * r6)) + (s7.1 138)) s7) ∧ (¬ v1 = 4 → (¬ v1 = 5 → Q (r1 + (256 * r6)) s7) ∧ (v1 = 5 → Q ((r1 + (256 * r6)) + (s7.1 138)) s7)))))))) : fb_V E fb_Po_fetchOperand 0 [.inr 4, .inl v1, .inr 999] [] σ Q := by
  refine fb_aload_n dd_Po_fetchOperand_0 rfl (by decide) ?_
  refine fb_callVi (z := fb_Po_fetch) (k := 4) (vs := []) (st := []) dd_Po_fetchOperand_1 vw_Po_75 (by decide) ⟨_, rfl⟩ rfl rfl (np := 0) (by decide +kernel) rfl rfl rfl rfl rfl (fb_mono h (fun r1 s2 h => ?_))
  refine fb_istore_n dd_Po_fetchOperand_4 rfl rfl rfl (fb_iload_n dd_Po_fetchOperand_5 rfl (fb_iconst dd_Po_fetchOperand_6 ?_))
  obtain ⟨q3, h⟩ := h
  refine fb_icmp_eq (tgt := 15) dd_Po_fetchOperand_7 rfl q3 (by decide) (fun hc => ?_) (fun hc => ?_)
  · replace h := h.1 hc
    refine fb_iload_n dd_Po_fetchOperand_15 rfl (fb_sipush dd_Po_fetchOperand_16 (by decide) (fb_aload_n dd_Po_fetchOperand_19 rfl (by decide) ?_))
    refine fb_callVi (z := fb_Po_fetch) (k := 4) (vs := []) (st := [.inl 256, .inl r1]) dd_Po_fetchOperand_20 vw_Po_75 (by decide) ⟨_, rfl⟩ rfl rfl (np := 0) (by decide +kernel) rfl rfl rfl rfl rfl (fb_mono h (fun r4 s5 h => ?_))
    refine fb_imul dd_Po_fetchOperand_23 (fb_iadd dd_Po_fetchOperand_24 (fb_istore_n dd_Po_fetchOperand_25 rfl rfl rfl (fb_iload_n dd_Po_fetchOperand_26 rfl (fb_iconst dd_Po_fetchOperand_27 ?_))))
    refine fb_icmp_eq (tgt := 36) dd_Po_fetchOperand_28 rfl q3 (by decide) (fun hc => ?_) (fun hc => ?_)
    · replace h := h.1 hc
      refine fb_iload_n dd_Po_fetchOperand_36 rfl (fb_aload_n dd_Po_fetchOperand_37 rfl (by decide) (fb_getI (x := s5.1 138) 4 10 dd_Po_fetchOperand_38 rfl rfl rfl (by decide) lk_Po_50 rfl (fb_iadd dd_Po_fetchOperand_41 (fb_goto (tgt := 46) dd_Po_fetchOperand_42 rfl ?_))))
      exact fb_iret dd_Po_fetchOperand_46 rfl h
    · replace h := h.2 hc
      refine fb_iload_n dd_Po_fetchOperand_31 rfl (fb_iconst dd_Po_fetchOperand_32 ?_)
      refine fb_icmp_ne (tgt := 45) dd_Po_fetchOperand_33 rfl q3 (by decide) (fun hc => ?_) (fun hc => ?_)
      · replace h := h.1 hc
        refine fb_iload_n dd_Po_fetchOperand_45 rfl ?_
        exact fb_iret dd_Po_fetchOperand_46 rfl h
      · replace h := h.2 hc
        refine fb_iload_n dd_Po_fetchOperand_36 rfl (fb_aload_n dd_Po_fetchOperand_37 rfl (by decide) (fb_getI (x := s5.1 138) 4 10 dd_Po_fetchOperand_38 rfl rfl rfl (by decide) lk_Po_50 rfl (fb_iadd dd_Po_fetchOperand_41 (fb_goto (tgt := 46) dd_Po_fetchOperand_42 rfl ?_))))
        exact fb_iret dd_Po_fetchOperand_46 rfl h
  · replace h := h.2 hc
    refine fb_iload_n dd_Po_fetchOperand_10 rfl (fb_iconst dd_Po_fetchOperand_11 ?_)
    refine fb_icmp_ne (tgt := 26) dd_Po_fetchOperand_12 rfl q3 (by decide) (fun hc => ?_) (fun hc => ?_)
    · replace h := h.1 hc
      refine fb_iload_n dd_Po_fetchOperand_26 rfl (fb_iconst dd_Po_fetchOperand_27 ?_)
      refine fb_icmp_eq (tgt := 36) dd_Po_fetchOperand_28 rfl q3 (by decide) (fun hc => ?_) (fun hc => ?_)
      · replace h := h.1 hc
        refine fb_iload_n dd_Po_fetchOperand_36 rfl (fb_aload_n dd_Po_fetchOperand_37 rfl (by decide) (fb_getI (x := s2.1 138) 4 10 dd_Po_fetchOperand_38 rfl rfl rfl (by decide) lk_Po_50 rfl (fb_iadd dd_Po_fetchOperand_41 (fb_goto (tgt := 46) dd_Po_fetchOperand_42 rfl ?_))))
        exact fb_iret dd_Po_fetchOperand_46 rfl h
      · replace h := h.2 hc
        refine fb_iload_n dd_Po_fetchOperand_31 rfl (fb_iconst dd_Po_fetchOperand_32 ?_)
        refine fb_icmp_ne (tgt := 45) dd_Po_fetchOperand_33 rfl q3 (by decide) (fun hc => ?_) (fun hc => ?_)
        · replace h := h.1 hc
          refine fb_iload_n dd_Po_fetchOperand_45 rfl ?_
          exact fb_iret dd_Po_fetchOperand_46 rfl h
        · replace h := h.2 hc
          refine fb_iload_n dd_Po_fetchOperand_36 rfl (fb_aload_n dd_Po_fetchOperand_37 rfl (by decide) (fb_getI (x := s2.1 138) 4 10 dd_Po_fetchOperand_38 rfl rfl rfl (by decide) lk_Po_50 rfl (fb_iadd dd_Po_fetchOperand_41 (fb_goto (tgt := 46) dd_Po_fetchOperand_42 rfl ?_))))
          exact fb_iret dd_Po_fetchOperand_46 rfl h
    · replace h := h.2 hc
      refine fb_iload_n dd_Po_fetchOperand_15 rfl (fb_sipush dd_Po_fetchOperand_16 (by decide) (fb_aload_n dd_Po_fetchOperand_19 rfl (by decide) ?_))
      refine fb_callVi (z := fb_Po_fetch) (k := 4) (vs := []) (st := [.inl 256, .inl r1]) dd_Po_fetchOperand_20 vw_Po_75 (by decide) ⟨_, rfl⟩ rfl rfl (np := 0) (by decide +kernel) rfl rfl rfl rfl rfl (fb_mono h (fun r6 s7 h => ?_))
      refine fb_imul dd_Po_fetchOperand_23 (fb_iadd dd_Po_fetchOperand_24 (fb_istore_n dd_Po_fetchOperand_25 rfl rfl rfl (fb_iload_n dd_Po_fetchOperand_26 rfl (fb_iconst dd_Po_fetchOperand_27 ?_))))
      refine fb_icmp_eq (tgt := 36) dd_Po_fetchOperand_28 rfl q3 (by decide) (fun hc => ?_) (fun hc => ?_)
      · replace h := h.1 hc
        refine fb_iload_n dd_Po_fetchOperand_36 rfl (fb_aload_n dd_Po_fetchOperand_37 rfl (by decide) (fb_getI (x := s7.1 138) 4 10 dd_Po_fetchOperand_38 rfl rfl rfl (by decide) lk_Po_50 rfl (fb_iadd dd_Po_fetchOperand_41 (fb_goto (tgt := 46) dd_Po_fetchOperand_42 rfl ?_))))
        exact fb_iret dd_Po_fetchOperand_46 rfl h
      · replace h := h.2 hc
        refine fb_iload_n dd_Po_fetchOperand_31 rfl (fb_iconst dd_Po_fetchOperand_32 ?_)
        refine fb_icmp_ne (tgt := 45) dd_Po_fetchOperand_33 rfl q3 (by decide) (fun hc => ?_) (fun hc => ?_)
        · replace h := h.1 hc
          refine fb_iload_n dd_Po_fetchOperand_45 rfl ?_
          exact fb_iret dd_Po_fetchOperand_46 rfl h
        · replace h := h.2 hc
          refine fb_iload_n dd_Po_fetchOperand_36 rfl (fb_aload_n dd_Po_fetchOperand_37 rfl (by decide) (fb_getI (x := s7.1 138) 4 10 dd_Po_fetchOperand_38 rfl rfl rfl (by decide) lk_Po_50 rfl (fb_iadd dd_Po_fetchOperand_41 (fb_goto (tgt := 46) dd_Po_fetchOperand_42 rfl ?_))))
          exact fb_iret dd_Po_fetchOperand_46 rfl h

theorem Po_read_b0 {E : fb_E} {σ : fb_S} {Q : Int → fb_S → Prop} (v1 : Int) (h : (-2147483648 ≤ v1 ∧ v1 < 2147483648) ∧ ((v1 < 0 → Q 0 σ) ∧ (¬ v1 < 0 → (128 ≤ v1 → Q 0 σ) ∧ (¬ 128 ≤ v1 → (0 ≤ v1 ∧ v1 < 128) ∧ (Q (σ.2 37 v1) σ))))) : fb_V E fb_Po_read 0 [.inr 4, .inl v1] [] σ Q := by
  refine fb_iload_n dd_Po_read_0 rfl ?_
  obtain ⟨q1, h⟩ := h
  refine fb_if_lt (tgt := 20) dd_Po_read_1 rfl q1 (fun hc => ?_) (fun hc => ?_)
  · replace h := h.1 hc
    refine fb_iconst dd_Po_read_20 ?_
    exact fb_iret dd_Po_read_21 rfl h
  · replace h := h.2 hc
    refine fb_iload_n dd_Po_read_4 rfl (fb_sipush dd_Po_read_5 (by decide) ?_)
    refine fb_icmp_ge (tgt := 20) dd_Po_read_8 rfl q1 (by decide) (fun hc => ?_) (fun hc => ?_)
    · replace h := h.1 hc
      refine fb_iconst dd_Po_read_20 ?_
      exact fb_iret dd_Po_read_21 rfl h
    · replace h := h.2 hc
      refine fb_aload_n dd_Po_read_11 rfl (by decide) (fb_getR 4 1 dd_Po_read_12 rfl rfl rfl (by decide) lk_Po_9 (fb_iload_n dd_Po_read_15 rfl ?_))
      obtain ⟨q2, h⟩ := h
      refine fb_ild (x := σ.2 37 v1) dd_Po_read_16 rfl q2 rfl (fb_goto (tgt := 21) dd_Po_read_17 rfl ?_)
      exact fb_iret dd_Po_read_21 rfl h

theorem Po_write_b0 {E : fb_E} {σ : fb_S} {Q : Int → fb_S → Prop} (v1 v2 : Int) (h : (-2147483648 ≤ v1 ∧ v1 < 2147483648) ∧ ((v1 < 0 → Q 0 σ) ∧ (¬ v1 < 0 → (128 ≤ v1 → Q 0 σ) ∧ (¬ 128 ≤ v1 → (0 ≤ v1 ∧ v1 < 128) ∧ (Q 0 (fb_sm σ 37 v1 v2)))))) : fb_V E fb_Po_write 0 [.inr 4, .inl v1, .inl v2] [] σ Q := by
  refine fb_iload_n dd_Po_write_0 rfl ?_
  obtain ⟨q1, h⟩ := h
  refine fb_if_lt (tgt := 18) dd_Po_write_1 rfl q1 (fun hc => ?_) (fun hc => ?_)
  · replace h := h.1 hc
    exact fb_vret dd_Po_write_18 rfl h
  · replace h := h.2 hc
    refine fb_iload_n dd_Po_write_4 rfl (fb_sipush dd_Po_write_5 (by decide) ?_)
    refine fb_icmp_ge (tgt := 18) dd_Po_write_8 rfl q1 (by decide) (fun hc => ?_) (fun hc => ?_)
    · replace h := h.1 hc
      exact fb_vret dd_Po_write_18 rfl h
    · replace h := h.2 hc
      refine fb_aload_n dd_Po_write_11 rfl (by decide) (fb_getR 4 1 dd_Po_write_12 rfl rfl rfl (by decide) lk_Po_9 (fb_iload_n dd_Po_write_15 rfl (fb_iload_n dd_Po_write_16 rfl ?_)))
      obtain ⟨q2, h⟩ := h
      refine fb_ist dd_Po_write_17 rfl q2 ?_
      exact fb_vret dd_Po_write_18 rfl h

theorem Po_doWithData_b0 {E : fb_E} {σ : fb_S} {Q : Int → fb_S → Prop} (v1 v2 : Int) (h : fb_V E fb_Po_fetchOperand 0 [.inr 4, .inl v2, .inr 999] [] σ (fun r1 s2 => (-2147483648 ≤ v2 ∧ v2 < 2147483648) ∧ ((¬ v2 = 1 → fb_V E fb_Po_read 0 [.inr 4, .inl r1] [] s2 (fun r4 s5 => (-2147483648 ≤ v1 ∧ v1 < 2147483648) ∧ ((v1 = 0 → fb_V E fb_Po_setA 0 [.inr 4, .inl r4] [] s5 (fun _ s8 => Q 0 s8)) ∧ (v1 = 1 → fb_V E fb_Po_write 0 [.inr 4, .inl r1, .inl (s5.1 137)] [] s5 (fun _ s10 => Q 0 s10)) ∧ (v1 = 2 → fb_V E fb_Po_add 0 [.inr 4, .inl r4, .inr 999] [] s5 (fun _ s12 => Q 0 s12)) ∧ (v1 = 3 → fb_V E fb_Po_add 0 [.inr 4, .inl (255 - r4), .inr 999] [] s5 (fun _ s14 => Q 0 s14)) ∧ (v1 = 4 → (0 ≤ (s5.1 137) ∧ (s5.1 137) < 2147483648) ∧ ((0 ≤ r4 ∧ r4 < 2147483648) ∧ (fb_V E fb_Po_setA 0 [.inr 4, .inl ((((s5.1 137) : Int).toNat &&& (r4 : Int).toNat : Nat) : Int)] [] s5 (fun _ s18 => Q 0 s18)))) ∧ (v1 = 5 → (0 ≤ (s5.1 137) ∧ (s5.1 137) < 2147483648) ∧ ((0 ≤ r4 ∧ r4 < 2147483648) ∧ (fb_V E fb_Po_setA 0 [.inr 4, .inl ((((s5.1 137) : Int).toNat ||| (r4 : Int).toNat : Nat) : Int)] [] s5 (fun _ s22 => Q 0 s22)))) ∧ (v1 = 6 → (0 ≤ (s5.1 137) ∧ (s5.1 137) < 2147483648) ∧ ((0 ≤ r4 ∧ r4 < 2147483648) ∧ (fb_V E fb_Po_setA 0 [.inr 4, .inl ((((s5.1 137) : Int).toNat ^^^ (r4 : Int).toNat : Nat) : Int)] [] s5 (fun _ s26 => Q 0 s26)))) ∧ (v1 = 7 → fb_V E fb_Po_shift 0 [.inr 4, .inl r1, .inl (2 * r4)] [] s5 (fun _ s28 => Q 0 s28)) ∧ (v1 = 8 → fb_V E fb_Po_shift 0 [.inr 4, .inl r1, .inl ((2 * r4) + (s5.1 139))] [] s5 (fun _ s30 => Q 0 s30)) ∧ (v1 = 9 → (-2147483648 ≤ r4 ∧ r4 < 2147483648) ∧ ((¬ r4 = 0 → Q 0 (fb_sg (fb_sg s5 138 r4) 140 0)) ∧ (r4 = 0 → Q 0 (fb_sg (fb_sg s5 138 r4) 140 1)))) ∧ (v1 = 10 → fb_V E fb_Po_compare 0 [.inr 4, .inl (s5.1 137), .inl r4] [] s5 (fun _ s33 => Q 0 s33)) ∧ ((¬ v1 = 0 ∧ ¬ v1 = 1 ∧ ¬ v1 = 2 ∧ ¬ v1 = 3 ∧ ¬ v1 = 4 ∧ ¬ v1 = 5 ∧ ¬ v1 = 6 ∧ ¬ v1 = 7 ∧ ¬ v1 = 8 ∧ ¬ v1 = 9 ∧ ¬ v1 = 10) → fb_V E fb_Po_compare 0 [.inr 4, .inl (s5.1 138), .inl r4] [] s5 (fun _ s35 => Q 0 s35))))) ∧ (v2 = 1 → (-2147483648 ≤ v1 ∧ v1 < 2147483648) ∧ ((v1 = 0 → fb_V E fb_Po_setA 0 [.inr 4, .inl r1] [] s2 (fun _ s38 => Q 0 s38)) ∧ (v1 = 1 → fb_V E fb_Po_write 0 [.inr 4, .inl r1, .inl (s2.1 137)] [] s2 (fun _ s40 => Q 0 s40)) ∧ (v1 = 2 → fb_V E fb_Po_add 0 [.inr 4, .inl r1, .inr 999] [] s2 (fun _ s42 => Q 0 s42)) ∧ (v1 = 3 → fb_V E fb_Po_add 0 [.inr 4, .inl (255 - r1), .inr 999] [] s2 (fun _ s44 => Q 0 s44)) ∧ (v1 = 4 → (0 ≤ (s2.1 137) ∧ (s2.1 137) < 2147483648) ∧ ((0 ≤ r1 ∧ r1 < 2147483648) ∧ (fb_V E fb_Po_setA 0 [.inr 4, .inl ((((s2.1 137) : Int).toNat &&& (r1 : Int).toNat : Nat) : Int)] [] s2 (fun _ s48 => Q 0 s48)))) ∧ (v1 = 5 → (0 ≤ (s2.1 137) ∧ (s2.1 137) < 2147483648) ∧ ((0 ≤ r1 ∧ r1 < 2147483648) ∧ (fb_V E fb_Po_setA 0 [.inr 4, .inl ((((s2.1 137) : Int).toNat ||| (r1 : Int).toNat : Nat) : Int)] [] s2 (fun _ s52 => Q 0 s52)))) ∧ (v1 = 6 → (0 ≤ (s2.1 137) ∧ (s2.1 137) < 2147483648) ∧ ((0 ≤ r1 ∧ r1 < 2147483648) ∧ (fb_V E fb_Po_setA 0 [.inr 4, .inl ((((s2.1 137) : Int).toNat ^^^ (r1 : Int).toNat : Nat) : Int)] [] s2 (fun _ s56 => Q 0 s56)))) ∧ (v1 = 7 → fb_V E fb_Po_shift 0 [.inr 4, .inl r1, .inl (2 * r1)] [] s2 (fun _ s58 => Q 0 s58)) ∧ (v1 = 8 → fb_V E fb_Po_shift 0 [.inr 4, .inl r1, .inl ((2 * r1) + (s2.1 139))] [] s2 (fun _ s60 => Q 0 s60)) ∧ (v1 = 9 → (-2147483648 ≤ r1 ∧ r1 < 2147483648) ∧ ((¬ r1 = 0 → Q 0 (fb_sg (fb_sg s2 138 r1) 140 0)) ∧ (r1 = 0 → Q 0 (fb_sg (fb_sg s2 138 r1) 140 1)))) ∧ (v1 = 10 → fb_V E fb_Po_compare 0 [.inr 4, .inl (s2.1 137), .inl r1] [] s2 (fun _ s63 => Q 0 s63)) ∧ ((¬ v1 = 0 ∧ ¬ v1 = 1 ∧ ¬ v1 = 2 ∧ ¬ v1 = 3 ∧ ¬ v1 = 4 ∧ ¬ v1 = 5 ∧ ¬ v1 = 6 ∧ ¬ v1 = 7 ∧ ¬ v1 = 8 ∧ ¬ v1 = 9 ∧ ¬ v1 = 10) → fb_V E fb_Po_compare 0 [.inr 4, .inl (s2.1 138), .inl r1] [] s2 (fun _ s65 => Q 0 s65))))))) : fb_V E fb_Po_doWithData 0 [.inr 4, .inl v1, .inl v2, .inr 999, .inr 999] [] σ Q := by
  refine fb_aload_n dd_Po_doWithData_0 rfl (by decide) (fb_iload_n dd_Po_doWithData_1 rfl ?_)
  refine fb_callVi (z := fb_Po_fetchOperand) (k := 4) (vs := [.inl v2]) (st := []) dd_Po_doWithData_2 vw_Po_95 (by decide) ⟨_, rfl⟩ rfl rfl (np := 1) (by decide +kernel) rfl rfl rfl rfl rfl (fb_mono h (fun r1 s2 h => ?_))
  refine fb_istore_n dd_Po_doWithData_5 rfl rfl rfl (fb_iload_n dd_Po_doWithData_6 rfl (fb_iconst dd_Po_doWithData_7 ?_))
  obtain ⟨q3, h⟩ := h
  refine fb_icmp_ne (tgt := 15) dd_Po_doWithData_8 rfl q3 (by decide) (fun hc => ?_) (fun hc => ?_)
  · replace h := h.1 hc
    refine fb_aload_n dd_Po_doWithData_15 rfl (by decide) (fb_iload_n dd_Po_doWithData_16 rfl ?_)
    refine fb_callVi (z := fb_Po_read) (k := 4) (vs := [.inl r1]) (st := []) dd_Po_doWithData_17 vw_Po_99 (by decide) ⟨_, rfl⟩ rfl rfl (np := 1) (by decide +kernel) rfl rfl rfl rfl rfl (fb_mono h (fun r4 s5 h => ?_))
    refine fb_istore dd_Po_doWithData_20 rfl rfl rfl (fb_iload_n dd_Po_doWithData_22 rfl ?_)
    obtain ⟨q6, h⟩ := h
    rcases (show (v1 = 0) ∨ (v1 = 1) ∨ (v1 = 2) ∨ (v1 = 3) ∨ (v1 = 4) ∨ (v1 = 5) ∨ (v1 = 6) ∨ (v1 = 7) ∨ (v1 = 8) ∨ (v1 = 9) ∨ (v1 = 10) ∨ (¬ v1 = 0 ∧ ¬ v1 = 1 ∧ ¬ v1 = 2 ∧ ¬ v1 = 3 ∧ ¬ v1 = 4 ∧ ¬ v1 = 5 ∧ ¬ v1 = 6 ∧ ¬ v1 = 7 ∧ ¬ v1 = 8 ∧ ¬ v1 = 9 ∧ ¬ v1 = 10) by omega) with hc | hc | hc | hc | hc | hc | hc | hc | hc | hc | hc | hc
    · replace h := h.1 hc
      refine fb_tsIn (tgt := 80) (57) dd_Po_doWithData_23 q6 (by omega) (by omega) (by rw [hc]; rfl) rfl ?_
      refine fb_aload_n dd_Po_doWithData_80 rfl (by decide) (fb_iload dd_Po_doWithData_81 rfl ?_)
      refine fb_callVv (z := fb_Po_setA) (k := 4) (vs := [.inl r4]) (st := []) dd_Po_doWithData_83 vw_Po_102 (by decide) rfl rfl rfl (np := 1) (by decide +kernel) rfl rfl rfl rfl rfl (fb_mono h (fun r7 s8 h => ?_))
      refine fb_goto (tgt := 240) dd_Po_doWithData_86 rfl ?_
      exact fb_vret dd_Po_doWithData_240 rfl h
    · replace h := h.2.1 hc
      refine fb_tsIn (tgt := 89) (66) dd_Po_doWithData_23 q6 (by omega) (by omega) (by rw [hc]; rfl) rfl ?_
      refine fb_aload_n dd_Po_doWithData_89 rfl (by decide) (fb_iload_n dd_Po_doWithData_90 rfl (fb_aload_n dd_Po_doWithData_91 rfl (by decide) (fb_getI (x := s5.1 137) 4 9 dd_Po_doWithData_92 rfl rfl rfl (by decide) lk_Po_47 rfl ?_)))
      refine fb_callVv (z := fb_Po_write) (k := 4) (vs := [.inl r1, .inl (s5.1 137)]) (st := []) dd_Po_doWithData_95 vw_Po_105 (by decide) rfl rfl rfl (np := 2) (by decide +kernel) rfl rfl rfl rfl rfl (fb_mono h (fun r9 s10 h => ?_))
      refine fb_goto (tgt := 240) dd_Po_doWithData_98 rfl ?_
      exact fb_vret dd_Po_doWithData_240 rfl h
    · replace h := h.2.2.1 hc
      refine fb_tsIn (tgt := 101) (78) dd_Po_doWithData_23 q6 (by omega) (by omega) (by rw [hc]; rfl) rfl ?_
      refine fb_aload_n dd_Po_doWithData_101 rfl (by decide) (fb_iload dd_Po_doWithData_102 rfl ?_)
      refine fb_callVv (z := fb_Po_add) (k := 4) (vs := [.inl r4]) (st := []) dd_Po_doWithData_104 vw_Po_108 (by decide) rfl rfl rfl (np := 1) (by decide +kernel) rfl rfl rfl rfl rfl (fb_mono h (fun r11 s12 h => ?_))
      refine fb_goto (tgt := 240) dd_Po_doWithData_107 rfl ?_
      exact fb_vret dd_Po_doWithData_240 rfl h
    · replace h := h.2.2.2.1 hc
      refine fb_tsIn (tgt := 110) (87) dd_Po_doWithData_23 q6 (by omega) (by omega) (by rw [hc]; rfl) rfl ?_
      refine fb_aload_n dd_Po_doWithData_110 rfl (by decide) (fb_sipush dd_Po_doWithData_111 (by decide) (fb_iload dd_Po_doWithData_114 rfl (fb_isub dd_Po_doWithData_116 ?_)))
      refine fb_callVv (z := fb_Po_add) (k := 4) (vs := [.inl (255 - r4)]) (st := []) dd_Po_doWithData_117 vw_Po_108 (by decide) rfl rfl rfl (np := 1) (by decide +kernel) rfl rfl rfl rfl rfl (fb_mono h (fun r13 s14 h => ?_))
      refine fb_goto (tgt := 240) dd_Po_doWithData_120 rfl ?_
      exact fb_vret dd_Po_doWithData_240 rfl h
    · replace h := h.2.2.2.2.1 hc
      refine fb_tsIn (tgt := 123) (100) dd_Po_doWithData_23 q6 (by omega) (by omega) (by rw [hc]; rfl) rfl ?_
      refine fb_aload_n dd_Po_doWithData_123 rfl (by decide) (fb_aload_n dd_Po_doWithData_124 rfl (by decide) (fb_getI (x := s5.1 137) 4 9 dd_Po_doWithData_125 rfl rfl rfl (by decide) lk_Po_47 rfl (fb_iload dd_Po_doWithData_128 rfl ?_)))
      obtain ⟨q15, h⟩ := h
      obtain ⟨q16, h⟩ := h
      refine fb_iand dd_Po_doWithData_130 q15 q16 ?_
      refine fb_callVv (z := fb_Po_setA) (k := 4) (vs := [.inl ((((s5.1 137) : Int).toNat &&& (r4 : Int).toNat : Nat) : Int)]) (st := []) dd_Po_doWithData_131 vw_Po_102 (by decide) rfl rfl rfl (np := 1) (by decide +kernel) rfl rfl rfl rfl rfl (fb_mono h (fun r17 s18 h => ?_))
      refine fb_goto (tgt := 240) dd_Po_doWithData_134 rfl ?_
      exact fb_vret dd_Po_doWithData_240 rfl h
    · replace h := h.2.2.2.2.2.1 hc
      refine fb_tsIn (tgt := 137) (114) dd_Po_doWithData_23 q6 (by omega) (by omega) (by rw [hc]; rfl) rfl ?_
      refine fb_aload_n dd_Po_doWithData_137 rfl (by decide) (fb_aload_n dd_Po_doWithData_138 rfl (by decide) (fb_getI (x := s5.1 137) 4 9 dd_Po_doWithData_139 rfl rfl rfl (by decide) lk_Po_47 rfl (fb_iload dd_Po_doWithData_142 rfl ?_)))
      obtain ⟨q19, h⟩ := h
      obtain ⟨q20, h⟩ := h
      refine fb_ior dd_Po_doWithData_144 q19 q20 ?_
      refine fb_callVv (z := fb_Po_setA) (k := 4) (vs := [.inl ((((s5.1 137) : Int).toNat ||| (r4 : Int).toNat : Nat) : Int)]) (st := []) dd_Po_doWithData_145 vw_Po_102 (by decide) rfl rfl rfl (np := 1) (by decide +kernel) rfl rfl rfl rfl rfl (fb_mono h (fun r21 s22 h => ?_))
      refine fb_goto (tgt := 240) dd_Po_doWithData_148 rfl ?_
      exact fb_vret dd_Po_doWithData_240 rfl h
    · replace h := h.2.2.2.2.2.2.1 hc
      refine fb_tsIn (tgt := 151) (128) dd_Po_doWithData_23 q6 (by omega) (by omega) (by rw [hc]; rfl) rfl ?_
      refine fb_aload_n dd_Po_doWithData_151 rfl (by decide) (fb_aload_n dd_Po_doWithData_152 rfl (by decide) (fb_getI (x := s5.1 137) 4 9 dd_Po_doWithData_153 rfl rfl rfl (by decide) lk_Po_47 rfl (fb_iload dd_Po_doWithData_156 rfl ?_)))
      obtain ⟨q23, h⟩ := h
      obtain ⟨q24, h⟩ := h
      refine fb_ixor dd_Po_doWithData_158 q23 q24 ?_
      refine fb_callVv (z := fb_Po_setA) (k := 4) (vs := [.inl ((((s5.1 137) : Int).toNat ^^^ (r4 : Int).toNat : Nat) : Int)]) (st := []) dd_Po_doWithData_159 vw_Po_102 (by decide) rfl rfl rfl (np := 1) (by decide +kernel) rfl rfl rfl rfl rfl (fb_mono h (fun r25 s26 h => ?_))
      refine fb_goto (tgt := 240) dd_Po_doWithData_162 rfl ?_
      exact fb_vret dd_Po_doWithData_240 rfl h
    · replace h := h.2.2.2.2.2.2.2.1 hc
      refine fb_tsIn (tgt := 165) (142) dd_Po_doWithData_23 q6 (by omega) (by omega) (by rw [hc]; rfl) rfl ?_
      refine fb_aload_n dd_Po_doWithData_165 rfl (by decide) (fb_iload_n dd_Po_doWithData_166 rfl (fb_iconst dd_Po_doWithData_167 (fb_iload dd_Po_doWithData_168 rfl (fb_imul dd_Po_doWithData_170 ?_))))
      refine fb_callVv (z := fb_Po_shift) (k := 4) (vs := [.inl r1, .inl (2 * r4)]) (st := []) dd_Po_doWithData_171 vw_Po_111 (by decide) rfl rfl rfl (np := 2) (by decide +kernel) rfl rfl rfl rfl rfl (fb_mono h (fun r27 s28 h => ?_))
      refine fb_goto (tgt := 240) dd_Po_doWithData_174 rfl ?_
      exact fb_vret dd_Po_doWithData_240 rfl h
    · replace h := h.2.2.2.2.2.2.2.2.1 hc
      refine fb_tsIn (tgt := 177) (154) dd_Po_doWithData_23 q6 (by omega) (by omega) (by rw [hc]; rfl) rfl ?_
      refine fb_aload_n dd_Po_doWithData_177 rfl (by decide) (fb_iload_n dd_Po_doWithData_178 rfl (fb_iconst dd_Po_doWithData_179 (fb_iload dd_Po_doWithData_180 rfl (fb_imul dd_Po_doWithData_182 (fb_aload_n dd_Po_doWithData_183 rfl (by decide) (fb_getI (x := s5.1 139) 4 11 dd_Po_doWithData_184 rfl rfl rfl (by decide) lk_Po_53 rfl (fb_iadd dd_Po_doWithData_187 ?_)))))))
      refine fb_callVv (z := fb_Po_shift) (k := 4) (vs := [.inl r1, .inl ((2 * r4) + (s5.1 139))]) (st := []) dd_Po_doWithData_188 vw_Po_111 (by decide) rfl rfl rfl (np := 2) (by decide +kernel) rfl rfl rfl rfl rfl (fb_mono h (fun r29 s30 h => ?_))
      refine fb_goto (tgt := 240) dd_Po_doWithData_191 rfl ?_
      exact fb_vret dd_Po_doWithData_240 rfl h
    · replace h := h.2.2.2.2.2.2.2.2.2.1 hc
      refine fb_tsIn (tgt := 194) (171) dd_Po_doWithData_23 q6 (by omega) (by omega) (by rw [hc]; rfl) rfl ?_
      refine fb_aload_n dd_Po_doWithData_194 rfl (by decide) (fb_iload dd_Po_doWithData_195 rfl (fb_putI 4 10 dd_Po_doWithData_197 rfl rfl rfl (by decide) rfl (by decide +kernel) lk_Po_50 (fb_aload_n dd_Po_doWithData_200 rfl (by decide) (fb_iload dd_Po_doWithData_201 rfl ?_))))
      obtain ⟨q31, h⟩ := h
      refine fb_if_ne (tgt := 210) dd_Po_doWithData_203 rfl q31 (fun hc => ?_) (fun hc => ?_)
      · replace h := h.1 hc
        refine fb_iconst dd_Po_doWithData_210 (fb_putZ 4 12 dd_Po_doWithData_211 (by decide) rfl rfl rfl (by decide) rfl (by decide +kernel) lk_Po_56 (fb_goto (tgt := 240) dd_Po_doWithData_214 rfl ?_))
        exact fb_vret dd_Po_doWithData_240 rfl h
      · replace h := h.2 hc
        refine fb_iconst dd_Po_doWithData_206 (fb_goto (tgt := 211) dd_Po_doWithData_207 rfl (fb_putZ 4 12 dd_Po_doWithData_211 (by decide) rfl rfl rfl (by decide) rfl (by decide +kernel) lk_Po_56 (fb_goto (tgt := 240) dd_Po_doWithData_214 rfl ?_)))
        exact fb_vret dd_Po_doWithData_240 rfl h
    · replace h := h.2.2.2.2.2.2.2.2.2.2.1 hc
      refine fb_tsIn (tgt := 217) (194) dd_Po_doWithData_23 q6 (by omega) (by omega) (by rw [hc]; rfl) rfl ?_
      refine fb_aload_n dd_Po_doWithData_217 rfl (by decide) (fb_aload_n dd_Po_doWithData_218 rfl (by decide) (fb_getI (x := s5.1 137) 4 9 dd_Po_doWithData_219 rfl rfl rfl (by decide) lk_Po_47 rfl (fb_iload dd_Po_doWithData_222 rfl ?_)))
      refine fb_callVv (z := fb_Po_compare) (k := 4) (vs := [.inl (s5.1 137), .inl r4]) (st := []) dd_Po_doWithData_224 vw_Po_114 (by decide) rfl rfl rfl (np := 2) (by decide +kernel) rfl rfl rfl rfl rfl (fb_mono h (fun r32 s33 h => ?_))
      refine fb_goto (tgt := 240) dd_Po_doWithData_227 rfl ?_
      exact fb_vret dd_Po_doWithData_240 rfl h
    · replace h := h.2.2.2.2.2.2.2.2.2.2.2 hc
      refine fb_tsOut (tgt := 230) dd_Po_doWithData_23 q6 (by omega) rfl ?_
      refine fb_aload_n dd_Po_doWithData_230 rfl (by decide) (fb_aload_n dd_Po_doWithData_231 rfl (by decide) (fb_getI (x := s5.1 138) 4 10 dd_Po_doWithData_232 rfl rfl rfl (by decide) lk_Po_50 rfl (fb_iload dd_Po_doWithData_235 rfl ?_)))
      refine fb_callVv (z := fb_Po_compare) (k := 4) (vs := [.inl (s5.1 138), .inl r4]) (st := []) dd_Po_doWithData_237 vw_Po_114 (by decide) rfl rfl rfl (np := 2) (by decide +kernel) rfl rfl rfl rfl rfl (fb_mono h (fun r34 s35 h => ?_))
      exact fb_vret dd_Po_doWithData_240 rfl h
  · replace h := h.2 hc
    refine fb_iload_n dd_Po_doWithData_11 rfl (fb_goto (tgt := 20) dd_Po_doWithData_12 rfl (fb_istore dd_Po_doWithData_20 rfl rfl rfl (fb_iload_n dd_Po_doWithData_22 rfl ?_)))
    obtain ⟨q36, h⟩ := h
    rcases (show (v1 = 0) ∨ (v1 = 1) ∨ (v1 = 2) ∨ (v1 = 3) ∨ (v1 = 4) ∨ (v1 = 5) ∨ (v1 = 6) ∨ (v1 = 7) ∨ (v1 = 8) ∨ (v1 = 9) ∨ (v1 = 10) ∨ (¬ v1 = 0 ∧ ¬ v1 = 1 ∧ ¬ v1 = 2 ∧ ¬ v1 = 3 ∧ ¬ v1 = 4 ∧ ¬ v1 = 5 ∧ ¬ v1 = 6 ∧ ¬ v1 = 7 ∧ ¬ v1 = 8 ∧ ¬ v1 = 9 ∧ ¬ v1 = 10) by omega) with hc | hc | hc | hc | hc | hc | hc | hc | hc | hc | hc | hc
    · replace h := h.1 hc
      refine fb_tsIn (tgt := 80) (57) dd_Po_doWithData_23 q36 (by omega) (by omega) (by rw [hc]; rfl) rfl ?_
      refine fb_aload_n dd_Po_doWithData_80 rfl (by decide) (fb_iload dd_Po_doWithData_81 rfl ?_)
      refine fb_callVv (z := fb_Po_setA) (k := 4) (vs := [.inl r1]) (st := []) dd_Po_doWithData_83 vw_Po_102 (by decide) rfl rfl rfl (np := 1) (by decide +kernel) rfl rfl rfl rfl rfl (fb_mono h (fun r37 s38 h => ?_))
      refine fb_goto (tgt := 240) dd_Po_doWithData_86 rfl ?_
      exact fb_vret dd_Po_doWithData_240 rfl h
    · replace h := h.2.1 hc
      refine fb_tsIn (tgt := 89) (66) dd_Po_doWithData_23 q36 (by omega) (by omega) (by rw [hc]; rfl) rfl ?_
      refine fb_aload_n dd_Po_doWithData_89 rfl (by decide) (fb_iload_n dd_Po_doWithData_90 rfl (fb_aload_n dd_Po_doWithData_91 rfl (by decide) (fb_getI (x := s2.1 137) 4 9 dd_Po_doWithData_92 rfl rfl rfl (by decide) lk_Po_47 rfl ?_)))
      refine fb_callVv (z := fb_Po_write) (k := 4) (vs := [.inl r1, .inl (s2.1 137)]) (st := []) dd_Po_doWithData_95 vw_Po_105 (by decide) rfl rfl rfl (np := 2) (by decide +kernel) rfl rfl rfl rfl rfl (fb_mono h (fun r39 s40 h => ?_))
      refine fb_goto (tgt := 240) dd_Po_doWithData_98 rfl ?_
      exact fb_vret dd_Po_doWithData_240 rfl h
    · replace h := h.2.2.1 hc
      refine fb_tsIn (tgt := 101) (78) dd_Po_doWithData_23 q36 (by omega) (by omega) (by rw [hc]; rfl) rfl ?_
      refine fb_aload_n dd_Po_doWithData_101 rfl (by decide) (fb_iload dd_Po_doWithData_102 rfl ?_)
      refine fb_callVv (z := fb_Po_add) (k := 4) (vs := [.inl r1]) (st := []) dd_Po_doWithData_104 vw_Po_108 (by decide) rfl rfl rfl (np := 1) (by decide +kernel) rfl rfl rfl rfl rfl (fb_mono h (fun r41 s42 h => ?_))
      refine fb_goto (tgt := 240) dd_Po_doWithData_107 rfl ?_
      exact fb_vret dd_Po_doWithData_240 rfl h
    · replace h := h.2.2.2.1 hc
      refine fb_tsIn (tgt := 110) (87) dd_Po_doWithData_23 q36 (by omega) (by omega) (by rw [hc]; rfl) rfl ?_
      refine fb_aload_n dd_Po_doWithData_110 rfl (by decide) (fb_sipush dd_Po_doWithData_111 (by decide) (fb_iload dd_Po_doWithData_114 rfl (fb_isub dd_Po_doWithData_116 ?_)))
      refine fb_callVv (z := fb_Po_add) (k := 4) (vs := [.inl (255 - r1)]) (st := []) dd_Po_doWithData_117 vw_Po_108 (by decide) rfl rfl rfl (np := 1) (by decide +kernel) rfl rfl rfl rfl rfl (fb_mono h (fun r43 s44 h => ?_))
      refine fb_goto (tgt := 240) dd_Po_doWithData_120 rfl ?_
      exact fb_vret dd_Po_doWithData_240 rfl h
    · replace h := h.2.2.2.2.1 hc
      refine fb_tsIn (tgt := 123) (100) dd_Po_doWithData_23 q36 (by omega) (by omega) (by rw [hc]; rfl) rfl ?_
      refine fb_aload_n dd_Po_doWithData_123 rfl (by decide) (fb_aload_n dd_Po_doWithData_124 rfl (by decide) (fb_getI (x := s2.1 137) 4 9 dd_Po_doWithData_125 rfl rfl rfl (by decide) lk_Po_47 rfl (fb_iload dd_Po_doWithData_128 rfl ?_)))
      obtain ⟨q45, h⟩ := h
      obtain ⟨q46, h⟩ := h
      refine fb_iand dd_Po_doWithData_130 q45 q46 ?_
      refine fb_callVv (z := fb_Po_setA) (k := 4) (vs := [.inl ((((s2.1 137) : Int).toNat &&& (r1 : Int).toNat : Nat) : Int)]) (st := []) dd_Po_doWithData_131 vw_Po_102 (by decide) rfl rfl rfl (np := 1) (by decide +kernel) rfl rfl rfl rfl rfl (fb_mono h (fun r47 s48 h => ?_))
      refine fb_goto (tgt := 240) dd_Po_doWithData_134 rfl ?_
      exact fb_vret dd_Po_doWithData_240 rfl h
    · replace h := h.2.2.2.2.2.1 hc
      refine fb_tsIn (tgt := 137) (114) dd_Po_doWithData_23 q36 (by omega) (by omega) (by rw [hc]; rfl) rfl ?_
      refine fb_aload_n dd_Po_doWithData_137 rfl (by decide) (fb_aload_n dd_Po_doWithData_138 rfl (by decide) (fb_getI (x := s2.1 137) 4 9 dd_Po_doWithData_139 rfl rfl rfl (by decide) lk_Po_47 rfl (fb_iload dd_Po_doWithData_142 rfl ?_)))
      obtain ⟨q49, h⟩ := h
      obtain ⟨q50, h⟩ := h
      refine fb_ior dd_Po_doWithData_144 q49 q50 ?_
      refine fb_callVv (z := fb_Po_setA) (k := 4) (vs := [.inl ((((s2.1 137) : Int).toNat ||| (r1 : Int).toNat : Nat) : Int)]) (st := []) dd_Po_doWithData_145 vw_Po_102 (by decide) rfl rfl rfl (np := 1) (by decide +kernel) rfl rfl rfl rfl rfl (fb_mono h (fun r51 s52 h => ?_))
      refine fb_goto (tgt := 240) dd_Po_doWithData_148 rfl ?_
      exact fb_vret dd_Po_doWithData_240 rfl h
    · replace h := h.2.2.2.2.2.2.1 hc
      refine fb_tsIn (tgt := 151) (128) dd_Po_doWithData_23 q36 (by omega) (by omega) (by rw [hc]; rfl) rfl ?_
      refine fb_aload_n dd_Po_doWithData_151 rfl (by decide) (fb_aload_n dd_Po_doWithData_152 rfl (by decide) (fb_getI (x := s2.1 137) 4 9 dd_Po_doWithData_153 rfl rfl rfl (by decide) lk_Po_47 rfl (fb_iload dd_Po_doWithData_156 rfl ?_)))
      obtain ⟨q53, h⟩ := h
      obtain ⟨q54, h⟩ := h
      refine fb_ixor dd_Po_doWithData_158 q53 q54 ?_
      refine fb_callVv (z := fb_Po_setA) (k := 4) (vs := [.inl ((((s2.1 137) : Int).toNat ^^^ (r1 : Int).toNat : Nat) : Int)]) (st := []) dd_Po_doWithData_159 vw_Po_102 (by decide) rfl rfl rfl (np := 1) (by decide +kernel) rfl rfl rfl rfl rfl (fb_mono h (fun r55 s56 h => ?_))
      refine fb_goto (tgt := 240) dd_Po_doWithData_162 rfl ?_
      exact fb_vret dd_Po_doWithData_240 rfl h
    · replace h := h.2.2.2.2.2.2.2.1 hc
      refine fb_tsIn (tgt := 165) (142) dd_Po_doWithData_23 q36 (by omega) (by omega) (by rw [hc]; rfl) rfl ?_
      refine fb_aload_n dd_Po_doWithData_165 rfl (by decide) (fb_iload_n dd_Po_doWithData_166 rfl (fb_iconst dd_Po_doWithData_167 (fb_iload dd_Po_doWithData_168 rfl (fb_imul dd_Po_doWithData_170 ?_))))
      refine fb_callVv (z := fb_Po_shift) (k := 4) (vs := [.inl r1, .inl (2 * r1)]) (st := []) dd_Po_doWithData_171 vw_Po_111 (by decide) rfl rfl rfl (np := 2) (by decide +kernel) rfl rfl rfl rfl rfl (fb_mono h (fun r57 s58 h => ?_))
      refine fb_goto (tgt := 240) dd_Po_doWithData_174 rfl ?_
      exact fb_vret dd_Po_doWithData_240 rfl h
    · replace h := h.2.2.2.2.2.2.2.2.1 hc
      refine fb_tsIn (tgt := 177) (154) dd_Po_doWithData_23 q36 (by omega) (by omega) (by rw [hc]; rfl) rfl ?_
      refine fb_aload_n dd_Po_doWithData_177 rfl (by decide) (fb_iload_n dd_Po_doWithData_178 rfl (fb_iconst dd_Po_doWithData_179 (fb_iload dd_Po_doWithData_180 rfl (fb_imul dd_Po_doWithData_182 (fb_aload_n dd_Po_doWithData_183 rfl (by decide) (fb_getI (x := s2.1 139) 4 11 dd_Po_doWithData_184 rfl rfl rfl (by decide) lk_Po_53 rfl (fb_iadd dd_Po_doWithData_187 ?_)))))))
      refine fb_callVv (z := fb_Po_shift) (k := 4) (vs := [.inl r1, .inl ((2 * r1) + (s2.1 139))]) (st := []) dd_Po_doWithData_188 vw_Po_111 (by decide) rfl rfl rfl (np := 2) (by decide +kernel) rfl rfl rfl rfl rfl (fb_mono h (fun r59 s60 h => ?_))
      refine fb_goto (tgt := 240) dd_Po_doWithData_191 rfl ?_
      exact fb_vret dd_Po_doWithData_240 rfl h
    · replace h := h.2.2.2.2.2.2.2.2.2.1 hc
      refine fb_tsIn (tgt := 194) (171) dd_Po_doWithData_23 q36 (by omega) (by omega) (by rw [hc]; rfl) rfl ?_
      refine fb_aload_n dd_Po_doWithData_194 rfl (by decide) (fb_iload dd_Po_doWithData_195 rfl (fb_putI 4 10 dd_Po_doWithData_197 rfl rfl rfl (by decide) rfl (by decide +kernel) lk_Po_50 (fb_aload_n dd_Po_doWithData_200 rfl (by decide) (fb_iload dd_Po_doWithData_201 rfl ?_))))
      obtain ⟨q61, h⟩ := h
      refine fb_if_ne (tgt := 210) dd_Po_doWithData_203 rfl q61 (fun hc => ?_) (fun hc => ?_)
      · replace h := h.1 hc
        refine fb_iconst dd_Po_doWithData_210 (fb_putZ 4 12 dd_Po_doWithData_211 (by decide) rfl rfl rfl (by decide) rfl (by decide +kernel) lk_Po_56 (fb_goto (tgt := 240) dd_Po_doWithData_214 rfl ?_))
        exact fb_vret dd_Po_doWithData_240 rfl h
      · replace h := h.2 hc
        refine fb_iconst dd_Po_doWithData_206 (fb_goto (tgt := 211) dd_Po_doWithData_207 rfl (fb_putZ 4 12 dd_Po_doWithData_211 (by decide) rfl rfl rfl (by decide) rfl (by decide +kernel) lk_Po_56 (fb_goto (tgt := 240) dd_Po_doWithData_214 rfl ?_)))
        exact fb_vret dd_Po_doWithData_240 rfl h
    · replace h := h.2.2.2.2.2.2.2.2.2.2.1 hc
      refine fb_tsIn (tgt := 217) (194) dd_Po_doWithData_23 q36 (by omega) (by omega) (by rw [hc]; rfl) rfl ?_
      refine fb_aload_n dd_Po_doWithData_217 rfl (by decide) (fb_aload_n dd_Po_doWithData_218 rfl (by decide) (fb_getI (x := s2.1 137) 4 9 dd_Po_doWithData_219 rfl rfl rfl (by decide) lk_Po_47 rfl (fb_iload dd_Po_doWithData_222 rfl ?_)))
      refine fb_callVv (z := fb_Po_compare) (k := 4) (vs := [.inl (s2.1 137), .inl r1]) (st := []) dd_Po_doWithData_224 vw_Po_114 (by decide) rfl rfl rfl (np := 2) (by decide +kernel) rfl rfl rfl rfl rfl (fb_mono h (fun r62 s63 h => ?_))
      refine fb_goto (tgt := 240) dd_Po_doWithData_227 rfl ?_
      exact fb_vret dd_Po_doWithData_240 rfl h
    · replace h := h.2.2.2.2.2.2.2.2.2.2.2 hc
      refine fb_tsOut (tgt := 230) dd_Po_doWithData_23 q36 (by omega) rfl ?_
      refine fb_aload_n dd_Po_doWithData_230 rfl (by decide) (fb_aload_n dd_Po_doWithData_231 rfl (by decide) (fb_getI (x := s2.1 138) 4 10 dd_Po_doWithData_232 rfl rfl rfl (by decide) lk_Po_50 rfl (fb_iload dd_Po_doWithData_235 rfl ?_)))
      refine fb_callVv (z := fb_Po_compare) (k := 4) (vs := [.inl (s2.1 138), .inl r1]) (st := []) dd_Po_doWithData_237 vw_Po_114 (by decide) rfl rfl rfl (np := 2) (by decide +kernel) rfl rfl rfl rfl rfl (fb_mono h (fun r64 s65 h => ?_))
      exact fb_vret dd_Po_doWithData_240 rfl h

theorem Po_setA_b0 {E : fb_E} {σ : fb_S} {Q : Int → fb_S → Prop} (v1 : Int) (h : (-2147483648 ≤ v1 ∧ v1 < 2147483648) ∧ ((¬ v1 = 0 → Q 0 (fb_sg (fb_sg σ 137 v1) 140 0)) ∧ (v1 = 0 → Q 0 (fb_sg (fb_sg σ 137 v1) 140 1)))) : fb_V E fb_Po_setA 0 [.inr 4, .inl v1] [] σ Q := by
  refine fb_aload_n dd_Po_setA_0 rfl (by decide) (fb_iload_n dd_Po_setA_1 rfl (fb_putI 4 9 dd_Po_setA_2 rfl rfl rfl (by decide) rfl (by decide +kernel) lk_Po_47 (fb_aload_n dd_Po_setA_5 rfl (by decide) (fb_iload_n dd_Po_setA_6 rfl ?_))))
  obtain ⟨q1, h⟩ := h
  refine fb_if_ne (tgt := 14) dd_Po_setA_7 rfl q1 (fun hc => ?_) (fun hc => ?_)
  · replace h := h.1 hc
    refine fb_iconst dd_Po_setA_14 (fb_putZ 4 12 dd_Po_setA_15 (by decide) rfl rfl rfl (by decide) rfl (by decide +kernel) lk_Po_56 ?_)
    exact fb_vret dd_Po_setA_18 rfl h
  · replace h := h.2 hc
    refine fb_iconst dd_Po_setA_10 (fb_goto (tgt := 15) dd_Po_setA_11 rfl (fb_putZ 4 12 dd_Po_setA_15 (by decide) rfl rfl rfl (by decide) rfl (by decide +kernel) lk_Po_56 ?_))
    exact fb_vret dd_Po_setA_18 rfl h

theorem Po_add_b0 {E : fb_E} {σ : fb_S} {Q : Int → fb_S → Prop} (v1 : Int) (h : (-2147483648 ≤ (((σ.1 137) + v1) + (σ.1 139)) ∧ (((σ.1 137) + v1) + (σ.1 139)) < 2147483648) ∧ (fb_V E fb_Po_setA 0 [.inr 4, .inl ((((σ.1 137) + v1) + (σ.1 139)) % 256)] [] (fb_sg σ 139 ((((σ.1 137) + v1) + (σ.1 139)) / 256)) (fun _ s3 => Q 0 s3))) : fb_V E fb_Po_add 0 [.inr 4, .inl v1, .inr 999] [] σ Q := by
  refine fb_aload_n dd_Po_add_0 rfl (by decide) (fb_getI (x := σ.1 137) 4 9 dd_Po_add_1 rfl rfl rfl (by decide) lk_Po_47 rfl (fb_iload_n dd_Po_add_4 rfl (fb_iadd dd_Po_add_5 (fb_aload_n dd_Po_add_6 rfl (by decide) (fb_getI (x := σ.1 139) 4 11 dd_Po_add_7 rfl rfl rfl (by decide) lk_Po_53 rfl (fb_iadd dd_Po_add_10 (fb_istore_n dd_Po_add_11 rfl rfl rfl ?_)))))))
  refine fb_aload_n dd_Po_add_12 rfl (by decide) (fb_iload_n dd_Po_add_13 rfl (fb_bipush dd_Po_add_14 (by decide) ?_))
  obtain ⟨q1, h⟩ := h
  refine fb_ishrC 8 (p := 256) (by decide) (by decide) (by decide) dd_Po_add_16 q1 (fb_putI 4 11 dd_Po_add_17 rfl rfl rfl (by decide) rfl (by decide +kernel) lk_Po_53 (fb_aload_n dd_Po_add_20 rfl (by decide) (fb_iload_n dd_Po_add_21 rfl (fb_sipush dd_Po_add_22 (by decide) (fb_iandM 8 (p := 256) (by decide) (by decide) (by decide) dd_Po_add_25 ?_)))))
  refine fb_callVv (z := fb_Po_setA) (k := 4) (vs := [.inl ((((σ.1 137) + v1) + (σ.1 139)) % 256)]) (st := []) dd_Po_add_26 vw_Po_102 (by decide) rfl rfl rfl (np := 1) (by decide +kernel) rfl rfl rfl rfl rfl (fb_mono h (fun r2 s3 h => ?_))
  exact fb_vret dd_Po_add_29 rfl h

theorem Po_shift_b0 {E : fb_E} {σ : fb_S} {Q : Int → fb_S → Prop} (v1 v2 : Int) (h : (-2147483648 ≤ v2 ∧ v2 < 2147483648) ∧ (fb_V E fb_Po_write 0 [.inr 4, .inl v1, .inl (v2 % 256)] [] (fb_sg σ 139 (v2 / 256)) (fun _ s3 => (-2147483648 ≤ (v2 % 256) ∧ (v2 % 256) < 2147483648) ∧ ((¬ (v2 % 256) = 0 → Q 0 (fb_sg s3 140 0)) ∧ ((v2 % 256) = 0 → Q 0 (fb_sg s3 140 1)))))) : fb_V E fb_Po_shift 0 [.inr 4, .inl v1, .inl v2] [] σ Q := by
  refine fb_aload_n dd_Po_shift_0 rfl (by decide) (fb_iload_n dd_Po_shift_1 rfl (fb_bipush dd_Po_shift_2 (by decide) ?_))
  obtain ⟨q1, h⟩ := h
  refine fb_ishrC 8 (p := 256) (by decide) (by decide) (by decide) dd_Po_shift_4 q1 (fb_putI 4 11 dd_Po_shift_5 rfl rfl rfl (by decide) rfl (by decide +kernel) lk_Po_53 (fb_aload_n dd_Po_shift_8 rfl (by decide) (fb_iload_n dd_Po_shift_9 rfl (fb_iload_n dd_Po_shift_10 rfl (fb_sipush dd_Po_shift_11 (by decide) (fb_iandM 8 (p := 256) (by decide) (by decide) (by decide) dd_Po_shift_14 ?_))))))
  refine fb_callVv (z := fb_Po_write) (k := 4) (vs := [.inl v1, .inl (v2 % 256)]) (st := []) dd_Po_shift_15 vw_Po_105 (by decide) rfl rfl rfl (np := 2) (by decide +kernel) rfl rfl rfl rfl rfl (fb_mono h (fun r2 s3 h => ?_))
  refine fb_aload_n dd_Po_shift_18 rfl (by decide) (fb_iload_n dd_Po_shift_19 rfl (fb_sipush dd_Po_shift_20 (by decide) (fb_iandM 8 (p := 256) (by decide) (by decide) (by decide) dd_Po_shift_23 ?_)))
  obtain ⟨q4, h⟩ := h
  refine fb_if_ne (tgt := 31) dd_Po_shift_24 rfl q4 (fun hc => ?_) (fun hc => ?_)
  · replace h := h.1 hc
    refine fb_iconst dd_Po_shift_31 (fb_putZ 4 12 dd_Po_shift_32 (by decide) rfl rfl rfl (by decide) rfl (by decide +kernel) lk_Po_56 ?_)
    exact fb_vret dd_Po_shift_35 rfl h
  · replace h := h.2 hc
    refine fb_iconst dd_Po_shift_27 (fb_goto (tgt := 32) dd_Po_shift_28 rfl (fb_putZ 4 12 dd_Po_shift_32 (by decide) rfl rfl rfl (by decide) rfl (by decide +kernel) lk_Po_56 ?_))
    exact fb_vret dd_Po_shift_35 rfl h

theorem Po_compare_b0 {E : fb_E} {σ : fb_S} {Q : Int → fb_S → Prop} (v1 v2 : Int) (h : (-2147483648 ≤ v1 ∧ v1 < 2147483648) ∧ ((-2147483648 ≤ v2 ∧ v2 < 2147483648) ∧ ((v1 < v2 → (¬ v1 = v2 → Q 0 (fb_sg (fb_sg σ 139 0) 140 0)) ∧ (v1 = v2 → Q 0 (fb_sg (fb_sg σ 139 0) 140 1))) ∧ (¬ v1 < v2 → (¬ v1 = v2 → Q 0 (fb_sg (fb_sg σ 139 1) 140 0)) ∧ (v1 = v2 → Q 0 (fb_sg (fb_sg σ 139 1) 140 1)))))) : fb_V E fb_Po_compare 0 [.inr 4, .inl v1, .inl v2] [] σ Q := by
  refine fb_aload_n dd_Po_compare_0 rfl (by decide) (fb_iload_n dd_Po_compare_1 rfl (fb_iload_n dd_Po_compare_2 rfl ?_))
  obtain ⟨q1, h⟩ := h
  obtain ⟨q2, h⟩ := h
  refine fb_icmp_lt (tgt := 10) dd_Po_compare_3 rfl q1 q2 (fun hc => ?_) (fun hc => ?_)
  · replace h := h.1 hc
    refine fb_iconst dd_Po_compare_10 (fb_putI 4 11 dd_Po_compare_11 rfl rfl rfl (by decide) rfl (by decide +kernel) lk_Po_53 (fb_aload_n dd_Po_compare_14 rfl (by decide) (fb_iload_n dd_Po_compare_15 rfl (fb_iload_n dd_Po_compare_16 rfl ?_))))
    refine fb_icmp_ne (tgt := 24) dd_Po_compare_17 rfl q1 q2 (fun hc => ?_) (fun hc => ?_)
    · replace h := h.1 hc
      refine fb_iconst dd_Po_compare_24 (fb_putZ 4 12 dd_Po_compare_25 (by decide) rfl rfl rfl (by decide) rfl (by decide +kernel) lk_Po_56 ?_)
      exact fb_vret dd_Po_compare_28 rfl h
    · replace h := h.2 hc
      refine fb_iconst dd_Po_compare_20 (fb_goto (tgt := 25) dd_Po_compare_21 rfl (fb_putZ 4 12 dd_Po_compare_25 (by decide) rfl rfl rfl (by decide) rfl (by decide +kernel) lk_Po_56 ?_))
      exact fb_vret dd_Po_compare_28 rfl h
  · replace h := h.2 hc
    refine fb_iconst dd_Po_compare_6 (fb_goto (tgt := 11) dd_Po_compare_7 rfl (fb_putI 4 11 dd_Po_compare_11 rfl rfl rfl (by decide) rfl (by decide +kernel) lk_Po_53 (fb_aload_n dd_Po_compare_14 rfl (by decide) (fb_iload_n dd_Po_compare_15 rfl (fb_iload_n dd_Po_compare_16 rfl ?_)))))
    refine fb_icmp_ne (tgt := 24) dd_Po_compare_17 rfl q1 q2 (fun hc => ?_) (fun hc => ?_)
    · replace h := h.1 hc
      refine fb_iconst dd_Po_compare_24 (fb_putZ 4 12 dd_Po_compare_25 (by decide) rfl rfl rfl (by decide) rfl (by decide +kernel) lk_Po_56 ?_)
      exact fb_vret dd_Po_compare_28 rfl h
    · replace h := h.2 hc
      refine fb_iconst dd_Po_compare_20 (fb_goto (tgt := 25) dd_Po_compare_21 rfl (fb_putZ 4 12 dd_Po_compare_25 (by decide) rfl rfl rfl (by decide) rfl (by decide +kernel) lk_Po_56 ?_))
      exact fb_vret dd_Po_compare_28 rfl h

theorem Po_doBranch_b0 {E : fb_E} {σ : fb_S} {Q : Int → fb_S → Prop} (v1 : Int) (h : fb_V E fb_Po_fetch 0 [.inr 4, .inr 999] [] σ (fun r1 s2 => fb_V E fb_Po_branches 0 [.inr 4, .inl v1] [] s2 (fun r3 s4 => (-2147483648 ≤ r3 ∧ r3 < 2147483648) ∧ ((r3 = 0 → Q 0 s4) ∧ (¬ r3 = 0 → (-2147483648 ≤ r1 ∧ r1 < 2147483648) ∧ ((128 ≤ r1 → Q 0 (fb_sg s4 136 ((s4.1 136) + (r1 - 256)))) ∧ (¬ 128 ≤ r1 → Q 0 (fb_sg s4 136 ((s4.1 136) + r1))))))))) : fb_V E fb_Po_doBranch 0 [.inr 4, .inl v1, .inr 999] [] σ Q := by
  refine fb_aload_n dd_Po_doBranch_0 rfl (by decide) ?_
  refine fb_callVi (z := fb_Po_fetch) (k := 4) (vs := []) (st := []) dd_Po_doBranch_1 vw_Po_75 (by decide) ⟨_, rfl⟩ rfl rfl (np := 0) (by decide +kernel) rfl rfl rfl rfl rfl (fb_mono h (fun r1 s2 h => ?_))
  refine fb_istore_n dd_Po_doBranch_4 rfl rfl rfl (fb_aload_n dd_Po_doBranch_5 rfl (by decide) (fb_iload_n dd_Po_doBranch_6 rfl ?_))
  refine fb_callVi (z := fb_Po_branches) (k := 4) (vs := [.inl v1]) (st := []) dd_Po_doBranch_7 vw_Po_117 (by decide) ⟨_, rfl⟩ rfl rfl (np := 1) (by decide +kernel) rfl rfl rfl rfl rfl (fb_mono h (fun r3 s4 h => ?_))
  obtain ⟨q5, h⟩ := h
  refine fb_if_eq (tgt := 38) dd_Po_doBranch_10 rfl q5 (fun hc => ?_) (fun hc => ?_)
  · replace h := h.1 hc
    exact fb_vret dd_Po_doBranch_38 rfl h
  · replace h := h.2 hc
    refine fb_aload_n dd_Po_doBranch_13 rfl (by decide) (fb_dup dd_Po_doBranch_14 (fb_getI (x := s4.1 136) 4 8 dd_Po_doBranch_15 rfl rfl rfl (by decide) lk_Po_44 rfl (fb_iload_n dd_Po_doBranch_18 rfl (fb_sipush dd_Po_doBranch_19 (by decide) ?_))))
    obtain ⟨q6, h⟩ := h
    refine fb_icmp_ge (tgt := 29) dd_Po_doBranch_22 rfl q6 (by decide) (fun hc => ?_) (fun hc => ?_)
    · replace h := h.1 hc
      refine fb_iload_n dd_Po_doBranch_29 rfl (fb_sipush dd_Po_doBranch_30 (by decide) (fb_isub dd_Po_doBranch_33 (fb_iadd dd_Po_doBranch_34 (fb_putI 4 8 dd_Po_doBranch_35 rfl rfl rfl (by decide) rfl (by decide +kernel) lk_Po_44 ?_))))
      exact fb_vret dd_Po_doBranch_38 rfl h
    · replace h := h.2 hc
      refine fb_iload_n dd_Po_doBranch_25 rfl (fb_goto (tgt := 34) dd_Po_doBranch_26 rfl (fb_iadd dd_Po_doBranch_34 (fb_putI 4 8 dd_Po_doBranch_35 rfl rfl rfl (by decide) rfl (by decide +kernel) lk_Po_44 ?_)))
      exact fb_vret dd_Po_doBranch_38 rfl h

theorem Po_branches_b0 {E : fb_E} {σ : fb_S} {Q : Int → fb_S → Prop} (v1 : Int) (h : (-2147483648 ≤ v1 ∧ v1 < 2147483648) ∧ ((v1 = 14 → ((σ.1 140) = 0 ∨ (σ.1 140) = 1) ∧ (Q (σ.1 140) σ)) ∧ (v1 = 15 → (-2147483648 ≤ (σ.1 140) ∧ (σ.1 140) < 2147483648) ∧ ((¬ (σ.1 140) = 0 → Q 0 σ) ∧ ((σ.1 140) = 0 → Q 1 σ))) ∧ (v1 = 16 → (-2147483648 ≤ (σ.1 139) ∧ (σ.1 139) < 2147483648) ∧ ((¬ (σ.1 139) = 0 → Q 0 σ) ∧ ((σ.1 139) = 0 → Q 1 σ))) ∧ ((¬ v1 = 14 ∧ ¬ v1 = 15 ∧ ¬ v1 = 16) → (-2147483648 ≤ (σ.1 139) ∧ (σ.1 139) < 2147483648) ∧ ((¬ (σ.1 139) = 1 → Q 0 σ) ∧ ((σ.1 139) = 1 → Q 1 σ))))) : fb_V E fb_Po_branches 0 [.inr 4, .inl v1] [] σ Q := by
  refine fb_iload_n dd_Po_branches_0 rfl ?_
  obtain ⟨q1, h⟩ := h
  rcases (show (v1 = 14) ∨ (v1 = 15) ∨ (v1 = 16) ∨ (¬ v1 = 14 ∧ ¬ v1 = 15 ∧ ¬ v1 = 16) by omega) with hc | hc | hc | hc
  · replace h := h.1 hc
    refine fb_tsIn (tgt := 28) (27) dd_Po_branches_1 q1 (by omega) (by omega) (by rw [hc]; rfl) rfl ?_
    refine fb_aload_n dd_Po_branches_28 rfl (by decide) (fb_getI (x := σ.1 140) 4 12 dd_Po_branches_29 rfl rfl rfl (by decide) lk_Po_56 rfl ?_)
    obtain ⟨q2, h⟩ := h
    exact fb_zret dd_Po_branches_32 rfl q2 h
  · replace h := h.2.1 hc
    refine fb_tsIn (tgt := 33) (32) dd_Po_branches_1 q1 (by omega) (by omega) (by rw [hc]; rfl) rfl ?_
    refine fb_aload_n dd_Po_branches_33 rfl (by decide) (fb_getI (x := σ.1 140) 4 12 dd_Po_branches_34 rfl rfl rfl (by decide) lk_Po_56 rfl ?_)
    obtain ⟨q3, h⟩ := h
    refine fb_if_ne (tgt := 44) dd_Po_branches_37 rfl q3 (fun hc => ?_) (fun hc => ?_)
    · replace h := h.1 hc
      refine fb_iconst dd_Po_branches_44 ?_
      exact fb_zret dd_Po_branches_45 rfl (by decide) h
    · replace h := h.2 hc
      refine fb_iconst dd_Po_branches_40 (fb_goto (tgt := 45) dd_Po_branches_41 rfl ?_)
      exact fb_zret dd_Po_branches_45 rfl (by decide) h
  · replace h := h.2.2.1 hc
    refine fb_tsIn (tgt := 46) (45) dd_Po_branches_1 q1 (by omega) (by omega) (by rw [hc]; rfl) rfl ?_
    refine fb_aload_n dd_Po_branches_46 rfl (by decide) (fb_getI (x := σ.1 139) 4 11 dd_Po_branches_47 rfl rfl rfl (by decide) lk_Po_53 rfl ?_)
    obtain ⟨q4, h⟩ := h
    refine fb_if_ne (tgt := 57) dd_Po_branches_50 rfl q4 (fun hc => ?_) (fun hc => ?_)
    · replace h := h.1 hc
      refine fb_iconst dd_Po_branches_57 ?_
      exact fb_zret dd_Po_branches_58 rfl (by decide) h
    · replace h := h.2 hc
      refine fb_iconst dd_Po_branches_53 (fb_goto (tgt := 58) dd_Po_branches_54 rfl ?_)
      exact fb_zret dd_Po_branches_58 rfl (by decide) h
  · replace h := h.2.2.2 hc
    refine fb_tsOut (tgt := 59) dd_Po_branches_1 q1 (by omega) rfl ?_
    refine fb_aload_n dd_Po_branches_59 rfl (by decide) (fb_getI (x := σ.1 139) 4 11 dd_Po_branches_60 rfl rfl rfl (by decide) lk_Po_53 rfl (fb_iconst dd_Po_branches_63 ?_))
    obtain ⟨q5, h⟩ := h
    refine fb_icmp_ne (tgt := 71) dd_Po_branches_64 rfl q5 (by decide) (fun hc => ?_) (fun hc => ?_)
    · replace h := h.1 hc
      refine fb_iconst dd_Po_branches_71 ?_
      exact fb_zret dd_Po_branches_72 rfl (by decide) h
    · replace h := h.2 hc
      refine fb_iconst dd_Po_branches_67 (fb_goto (tgt := 72) dd_Po_branches_68 rfl ?_)
      exact fb_zret dd_Po_branches_72 rfl (by decide) h

theorem Po_doJump_b0 {E : fb_E} {σ : fb_S} {Q : Int → fb_S → Prop} (v1 : Int) (h : fb_V E fb_Po_fetch 0 [.inr 4, .inr 999] [] σ (fun r1 s2 => fb_V E fb_Po_fetch 0 [.inr 4, .inr 999] [] s2 (fun r3 s4 => (-2147483648 ≤ v1 ∧ v1 < 2147483648) ∧ ((¬ v1 = 19 → Q 0 (fb_sg s4 136 (r1 + (256 * r3)))) ∧ (v1 = 19 → (-2147483648 ≤ (s4.1 132) ∧ (s4.1 132) < 2147483648) ∧ ((6 ≤ (s4.1 132) → Q 0 (fb_sg s4 136 (r1 + (256 * r3)))) ∧ (¬ 6 ≤ (s4.1 132) → (0 ≤ (s4.1 132) ∧ (s4.1 132) < 6) ∧ (Q 0 (fb_sg (fb_sg (fb_sm s4 39 (s4.1 132) (s4.1 136)) 132 ((s4.1 132) + 1)) 136 (r1 + (256 * r3))))))))))) : fb_V E fb_Po_doJump 0 [.inr 4, .inl v1, .inr 999, .inr 999] [] σ Q := by
  refine fb_aload_n dd_Po_doJump_0 rfl (by decide) ?_
  refine fb_callVi (z := fb_Po_fetch) (k := 4) (vs := []) (st := []) dd_Po_doJump_1 vw_Po_75 (by decide) ⟨_, rfl⟩ rfl rfl (np := 0) (by decide +kernel) rfl rfl rfl rfl rfl (fb_mono h (fun r1 s2 h => ?_))
  refine fb_istore_n dd_Po_doJump_4 rfl rfl rfl (fb_iload_n dd_Po_doJump_5 rfl (fb_sipush dd_Po_doJump_6 (by decide) (fb_aload_n dd_Po_doJump_9 rfl (by decide) ?_)))
  refine fb_callVi (z := fb_Po_fetch) (k := 4) (vs := []) (st := [.inl 256, .inl r1]) dd_Po_doJump_10 vw_Po_75 (by decide) ⟨_, rfl⟩ rfl rfl (np := 0) (by decide +kernel) rfl rfl rfl rfl rfl (fb_mono h (fun r3 s4 h => ?_))
  refine fb_imul dd_Po_doJump_13 (fb_iadd dd_Po_doJump_14 (fb_istore_n dd_Po_doJump_15 rfl rfl rfl (fb_iload_n dd_Po_doJump_16 rfl (fb_bipush dd_Po_doJump_17 (by decide) ?_))))
  obtain ⟨q5, h⟩ := h
  refine fb_icmp_ne (tgt := 54) dd_Po_doJump_19 rfl q5 (by decide) (fun hc => ?_) (fun hc => ?_)
  · replace h := h.1 hc
    refine fb_aload_n dd_Po_doJump_54 rfl (by decide) (fb_iload_n dd_Po_doJump_55 rfl (fb_putI 4 8 dd_Po_doJump_56 rfl rfl rfl (by decide) rfl (by decide +kernel) lk_Po_44 ?_))
    exact fb_vret dd_Po_doJump_59 rfl h
  · replace h := h.2 hc
    refine fb_aload_n dd_Po_doJump_22 rfl (by decide) (fb_getI (x := s4.1 132) 4 4 dd_Po_doJump_23 rfl rfl rfl (by decide) lk_Po_41 rfl (fb_bipush dd_Po_doJump_26 (by decide) ?_))
    obtain ⟨q6, h⟩ := h
    refine fb_icmp_ge (tgt := 54) dd_Po_doJump_28 rfl q6 (by decide) (fun hc => ?_) (fun hc => ?_)
    · replace h := h.1 hc
      refine fb_aload_n dd_Po_doJump_54 rfl (by decide) (fb_iload_n dd_Po_doJump_55 rfl (fb_putI 4 8 dd_Po_doJump_56 rfl rfl rfl (by decide) rfl (by decide +kernel) lk_Po_44 ?_))
      exact fb_vret dd_Po_doJump_59 rfl h
    · replace h := h.2 hc
      refine fb_aload_n dd_Po_doJump_31 rfl (by decide) (fb_getR 4 3 dd_Po_doJump_32 rfl rfl rfl (by decide) lk_Po_18 (fb_aload_n dd_Po_doJump_35 rfl (by decide) (fb_getI (x := s4.1 132) 4 4 dd_Po_doJump_36 rfl rfl rfl (by decide) lk_Po_41 rfl (fb_aload_n dd_Po_doJump_39 rfl (by decide) (fb_getI (x := s4.1 136) 4 8 dd_Po_doJump_40 rfl rfl rfl (by decide) lk_Po_44 rfl ?_)))))
      obtain ⟨q7, h⟩ := h
      refine fb_ist dd_Po_doJump_43 rfl q7 (fb_aload_n dd_Po_doJump_44 rfl (by decide) (fb_dup dd_Po_doJump_45 (fb_getI (x := s4.1 132) 4 4 dd_Po_doJump_46 rfl rfl rfl (by decide) lk_Po_41 rfl (fb_iconst dd_Po_doJump_49 (fb_iadd dd_Po_doJump_50 (fb_putI 4 4 dd_Po_doJump_51 rfl rfl rfl (by decide) rfl (by decide +kernel) lk_Po_41 (fb_aload_n dd_Po_doJump_54 rfl (by decide) ?_)))))))
      refine fb_iload_n dd_Po_doJump_55 rfl (fb_putI 4 8 dd_Po_doJump_56 rfl rfl rfl (by decide) rfl (by decide +kernel) lk_Po_44 ?_)
      exact fb_vret dd_Po_doJump_59 rfl h

theorem Po_doAlone_b0 {E : fb_E} {σ : fb_S} {Q : Int → fb_S → Prop} (v1 : Int) (h : (-2147483648 ≤ v1 ∧ v1 < 2147483648) ∧ ((v1 = 12 → Q 0 (fb_sg σ 139 0)) ∧ (v1 = 13 → Q 0 (fb_sg σ 139 1)) ∧ (v1 = 20 → fb_V E fb_Po_doReturn 0 [.inr 4] [] σ (fun _ s3 => Q 0 s3)) ∧ (v1 = 21 → fb_V E fb_Po_putOut 0 [.inr 4] [] σ (fun _ s5 => Q 0 s5)) ∧ ((¬ v1 = 12 ∧ ¬ v1 = 13 ∧ ¬ v1 = 20 ∧ ¬ v1 = 21) → Q 0 (fb_sg σ 133 2)))) : fb_V E fb_Po_doAlone 0 [.inr 4, .inl v1] [] σ Q := by
  refine fb_iload_n dd_Po_doAlone_0 rfl ?_
  obtain ⟨q1, h⟩ := h
  rcases (show (v1 = 12) ∨ (v1 = 13) ∨ (v1 = 20) ∨ (v1 = 21) ∨ (¬ v1 = 12 ∧ ¬ v1 = 13 ∧ ¬ v1 = 20 ∧ ¬ v1 = 21) by omega) with hc | hc | hc | hc | hc
  · replace h := h.1 hc
    refine fb_tsIn (tgt := 56) (55) dd_Po_doAlone_1 q1 (by omega) (by omega) (by rw [hc]; rfl) rfl ?_
    refine fb_aload_n dd_Po_doAlone_56 rfl (by decide) (fb_iconst dd_Po_doAlone_57 (fb_putI 4 11 dd_Po_doAlone_58 rfl rfl rfl (by decide) rfl (by decide +kernel) lk_Po_53 (fb_goto (tgt := 91) dd_Po_doAlone_61 rfl ?_)))
    exact fb_vret dd_Po_doAlone_91 rfl h
  · replace h := h.2.1 hc
    refine fb_tsIn (tgt := 64) (63) dd_Po_doAlone_1 q1 (by omega) (by omega) (by rw [hc]; rfl) rfl ?_
    refine fb_aload_n dd_Po_doAlone_64 rfl (by decide) (fb_iconst dd_Po_doAlone_65 (fb_putI 4 11 dd_Po_doAlone_66 rfl rfl rfl (by decide) rfl (by decide +kernel) lk_Po_53 (fb_goto (tgt := 91) dd_Po_doAlone_69 rfl ?_)))
    exact fb_vret dd_Po_doAlone_91 rfl h
  · replace h := h.2.2.1 hc
    refine fb_tsIn (tgt := 72) (71) dd_Po_doAlone_1 q1 (by omega) (by omega) (by rw [hc]; rfl) rfl ?_
    refine fb_aload_n dd_Po_doAlone_72 rfl (by decide) ?_
    refine fb_callVv (z := fb_Po_doReturn) (k := 4) (vs := []) (st := []) dd_Po_doAlone_73 vw_Po_121 (by decide) rfl rfl rfl (np := 0) (by decide +kernel) rfl rfl rfl rfl rfl (fb_mono h (fun r2 s3 h => ?_))
    refine fb_goto (tgt := 91) dd_Po_doAlone_76 rfl ?_
    exact fb_vret dd_Po_doAlone_91 rfl h
  · replace h := h.2.2.2.1 hc
    refine fb_tsIn (tgt := 79) (78) dd_Po_doAlone_1 q1 (by omega) (by omega) (by rw [hc]; rfl) rfl ?_
    refine fb_aload_n dd_Po_doAlone_79 rfl (by decide) ?_
    refine fb_callVv (z := fb_Po_putOut) (k := 4) (vs := []) (st := []) dd_Po_doAlone_80 vw_Po_124 (by decide) rfl rfl rfl (np := 0) (by decide +kernel) rfl rfl rfl rfl rfl (fb_mono h (fun r4 s5 h => ?_))
    refine fb_goto (tgt := 91) dd_Po_doAlone_83 rfl ?_
    exact fb_vret dd_Po_doAlone_91 rfl h
  · replace h := h.2.2.2.2 hc
    rcases (show v1 = 14 ∨ v1 = 15 ∨ v1 = 16 ∨ v1 = 17 ∨ v1 = 18 ∨ v1 = 19 ∨ (v1 < 12 ∨ 21 < v1) by omega) with hd | hd | hd | hd | hd | hd | hd
    · refine fb_tsIn (tgt := 86) (85) dd_Po_doAlone_1 q1 (by omega) (by omega) (by rw [hd]; rfl) rfl ?_
      refine fb_aload_n dd_Po_doAlone_86 rfl (by decide) (fb_iconst dd_Po_doAlone_87 (fb_putI 4 5 dd_Po_doAlone_88 rfl rfl rfl (by decide) rfl (by decide +kernel) lk_Po_21 ?_))
      exact fb_vret dd_Po_doAlone_91 rfl h
    · refine fb_tsIn (tgt := 86) (85) dd_Po_doAlone_1 q1 (by omega) (by omega) (by rw [hd]; rfl) rfl ?_
      refine fb_aload_n dd_Po_doAlone_86 rfl (by decide) (fb_iconst dd_Po_doAlone_87 (fb_putI 4 5 dd_Po_doAlone_88 rfl rfl rfl (by decide) rfl (by decide +kernel) lk_Po_21 ?_))
      exact fb_vret dd_Po_doAlone_91 rfl h
    · refine fb_tsIn (tgt := 86) (85) dd_Po_doAlone_1 q1 (by omega) (by omega) (by rw [hd]; rfl) rfl ?_
      refine fb_aload_n dd_Po_doAlone_86 rfl (by decide) (fb_iconst dd_Po_doAlone_87 (fb_putI 4 5 dd_Po_doAlone_88 rfl rfl rfl (by decide) rfl (by decide +kernel) lk_Po_21 ?_))
      exact fb_vret dd_Po_doAlone_91 rfl h
    · refine fb_tsIn (tgt := 86) (85) dd_Po_doAlone_1 q1 (by omega) (by omega) (by rw [hd]; rfl) rfl ?_
      refine fb_aload_n dd_Po_doAlone_86 rfl (by decide) (fb_iconst dd_Po_doAlone_87 (fb_putI 4 5 dd_Po_doAlone_88 rfl rfl rfl (by decide) rfl (by decide +kernel) lk_Po_21 ?_))
      exact fb_vret dd_Po_doAlone_91 rfl h
    · refine fb_tsIn (tgt := 86) (85) dd_Po_doAlone_1 q1 (by omega) (by omega) (by rw [hd]; rfl) rfl ?_
      refine fb_aload_n dd_Po_doAlone_86 rfl (by decide) (fb_iconst dd_Po_doAlone_87 (fb_putI 4 5 dd_Po_doAlone_88 rfl rfl rfl (by decide) rfl (by decide +kernel) lk_Po_21 ?_))
      exact fb_vret dd_Po_doAlone_91 rfl h
    · refine fb_tsIn (tgt := 86) (85) dd_Po_doAlone_1 q1 (by omega) (by omega) (by rw [hd]; rfl) rfl ?_
      refine fb_aload_n dd_Po_doAlone_86 rfl (by decide) (fb_iconst dd_Po_doAlone_87 (fb_putI 4 5 dd_Po_doAlone_88 rfl rfl rfl (by decide) rfl (by decide +kernel) lk_Po_21 ?_))
      exact fb_vret dd_Po_doAlone_91 rfl h
    · refine fb_tsOut (tgt := 86) dd_Po_doAlone_1 q1 hd rfl ?_
      refine fb_aload_n dd_Po_doAlone_86 rfl (by decide) (fb_iconst dd_Po_doAlone_87 (fb_putI 4 5 dd_Po_doAlone_88 rfl rfl rfl (by decide) rfl (by decide +kernel) lk_Po_21 ?_))
      exact fb_vret dd_Po_doAlone_91 rfl h

theorem Po_doReturn_b0 {E : fb_E} {σ : fb_S} {Q : Int → fb_S → Prop} (h : (-2147483648 ≤ (σ.1 132) ∧ (σ.1 132) < 2147483648) ∧ ((¬ (σ.1 132) = 0 → (0 ≤ ((σ.1 132) - 1) ∧ ((σ.1 132) - 1) < 6) ∧ (Q 0 (fb_sg (fb_sg σ 132 ((σ.1 132) - 1)) 136 (σ.2 39 ((σ.1 132) - 1))))) ∧ ((σ.1 132) = 0 → Q 0 (fb_sg σ 133 1)))) : fb_V E fb_Po_doReturn 0 [.inr 4] [] σ Q := by
  refine fb_aload_n dd_Po_doReturn_0 rfl (by decide) (fb_getI (x := σ.1 132) 4 4 dd_Po_doReturn_1 rfl rfl rfl (by decide) lk_Po_41 rfl ?_)
  obtain ⟨q1, h⟩ := h
  refine fb_if_ne (tgt := 15) dd_Po_doReturn_4 rfl q1 (fun hc => ?_) (fun hc => ?_)
  · replace h := h.1 hc
    refine fb_aload_n dd_Po_doReturn_15 rfl (by decide) (fb_dup dd_Po_doReturn_16 (fb_getI (x := σ.1 132) 4 4 dd_Po_doReturn_17 rfl rfl rfl (by decide) lk_Po_41 rfl (fb_iconst dd_Po_doReturn_20 (fb_isub dd_Po_doReturn_21 (fb_putI 4 4 dd_Po_doReturn_22 rfl rfl rfl (by decide) rfl (by decide +kernel) lk_Po_41 (fb_aload_n dd_Po_doReturn_25 rfl (by decide) (fb_aload_n dd_Po_doReturn_26 rfl (by decide) ?_)))))))
    refine fb_getR 4 3 dd_Po_doReturn_27 rfl rfl rfl (by decide) lk_Po_18 (fb_aload_n dd_Po_doReturn_30 rfl (by decide) (fb_getI (x := (σ.1 132) - 1) 4 4 dd_Po_doReturn_31 rfl rfl rfl (by decide) lk_Po_41 rfl ?_))
    obtain ⟨q2, h⟩ := h
    refine fb_ild (x := σ.2 39 ((σ.1 132) - 1)) dd_Po_doReturn_34 rfl q2 rfl (fb_putI 4 8 dd_Po_doReturn_35 rfl rfl rfl (by decide) rfl (by decide +kernel) lk_Po_44 ?_)
    exact fb_vret dd_Po_doReturn_38 rfl h
  · replace h := h.2 hc
    refine fb_aload_n dd_Po_doReturn_7 rfl (by decide) (fb_iconst dd_Po_doReturn_8 (fb_putI 4 5 dd_Po_doReturn_9 rfl rfl rfl (by decide) rfl (by decide +kernel) lk_Po_21 (fb_goto (tgt := 38) dd_Po_doReturn_12 rfl ?_)))
    exact fb_vret dd_Po_doReturn_38 rfl h

theorem Po_putOut_b0 {E : fb_E} {σ : fb_S} {Q : Int → fb_S → Prop} (h : (-2147483648 ≤ (σ.1 135) ∧ (σ.1 135) < 2147483648) ∧ ((100 ≤ (σ.1 135) → Q 0 (fb_sg σ 135 ((σ.1 135) + 1))) ∧ (¬ 100 ≤ (σ.1 135) → (0 ≤ (σ.1 135) ∧ (σ.1 135) < 100) ∧ (Q 0 (fb_sg (fb_sm σ 38 (σ.1 135) (σ.1 137)) 135 ((σ.1 135) + 1)))))) : fb_V E fb_Po_putOut 0 [.inr 4] [] σ Q := by
  refine fb_aload_n dd_Po_putOut_0 rfl (by decide) (fb_getI (x := σ.1 135) 4 7 dd_Po_putOut_1 rfl rfl rfl (by decide) lk_Po_32 rfl (fb_bipush dd_Po_putOut_4 (by decide) ?_))
  obtain ⟨q1, h⟩ := h
  refine fb_icmp_ge (tgt := 22) dd_Po_putOut_6 rfl q1 (by decide) (fun hc => ?_) (fun hc => ?_)
  · replace h := h.1 hc
    refine fb_aload_n dd_Po_putOut_22 rfl (by decide) (fb_dup dd_Po_putOut_23 (fb_getI (x := σ.1 135) 4 7 dd_Po_putOut_24 rfl rfl rfl (by decide) lk_Po_32 rfl (fb_iconst dd_Po_putOut_27 (fb_iadd dd_Po_putOut_28 (fb_putI 4 7 dd_Po_putOut_29 rfl rfl rfl (by decide) rfl (by decide +kernel) lk_Po_32 ?_)))))
    exact fb_vret dd_Po_putOut_32 rfl h
  · replace h := h.2 hc
    refine fb_aload_n dd_Po_putOut_9 rfl (by decide) (fb_getR 4 2 dd_Po_putOut_10 rfl rfl rfl (by decide) lk_Po_15 (fb_aload_n dd_Po_putOut_13 rfl (by decide) (fb_getI (x := σ.1 135) 4 7 dd_Po_putOut_14 rfl rfl rfl (by decide) lk_Po_32 rfl (fb_aload_n dd_Po_putOut_17 rfl (by decide) (fb_getI (x := σ.1 137) 4 9 dd_Po_putOut_18 rfl rfl rfl (by decide) lk_Po_47 rfl ?_)))))
    obtain ⟨q2, h⟩ := h
    refine fb_ist dd_Po_putOut_21 rfl q2 (fb_aload_n dd_Po_putOut_22 rfl (by decide) (fb_dup dd_Po_putOut_23 (fb_getI (x := σ.1 135) 4 7 dd_Po_putOut_24 rfl rfl rfl (by decide) lk_Po_32 rfl (fb_iconst dd_Po_putOut_27 (fb_iadd dd_Po_putOut_28 (fb_putI 4 7 dd_Po_putOut_29 rfl rfl rfl (by decide) rfl (by decide +kernel) lk_Po_32 ?_))))))
    exact fb_vret dd_Po_putOut_32 rfl h
