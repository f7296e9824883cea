theorem Mo_with_b0 {E : fb_E} {σ : fb_S} {Q : Int → fb_S → Prop} (v1 v2 : Int) (h : (-2147483648 ≤ v2 ∧ v2 < 2147483648) ∧ ((v2 < 256 → (16 ≤ v2 → fb_V E fb_Mo_put 0 [.inr 5, .inl ((8 * v1) + 3)] [] (fb_sg σ 181 ((σ.1 181) + 1)) (fun _ s3 => fb_V E fb_Mo_put 0 [.inr 5, .inl v2] [] s3 (fun _ s5 => (v2 < 16 → fb_V E fb_Mo_with 71 [.inr 5, .inl v1, .inl v2] [] s5 Q) ∧ (¬ v2 < 16 → fb_V E fb_Mo_put 0 [.inr 5, .inl 0] [] s5 (fun _ s7 => fb_V E fb_Mo_with 71 [.inr 5, .inl v1, .inl v2] [] s7 Q))))) ∧ (¬ 16 ≤ v2 → fb_V E fb_Mo_put 0 [.inr 5, .inl ((8 * v1) + 2)] [] (fb_sg σ 181 ((σ.1 181) + 1)) (fun _ s9 => fb_V E fb_Mo_put 0 [.inr 5, .inl v2] [] s9 (fun _ s11 => (v2 < 16 → fb_V E fb_Mo_with 71 [.inr 5, .inl v1, .inl v2] [] s11 Q) ∧ (¬ v2 < 16 → fb_V E fb_Mo_put 0 [.inr 5, .inl 0] [] s11 (fun _ s13 => fb_V E fb_Mo_with 71 [.inr 5, .inl v1, .inl v2] [] s13 Q)))))) ∧ (¬ v2 < 256 → fb_V E fb_Mo_put 0 [.inr 5, .inl ((8 * v1) + 1)] [] (fb_sg σ 181 ((σ.1 181) + 1)) (fun _ s15 => fb_V E fb_Mo_put 0 [.inr 5, .inl v2] [] s15 (fun _ s17 => fb_V E fb_Mo_with 71 [.inr 5, .inl v1, .inl v2] [] s17 Q))))) : fb_V E fb_Mo_with 0 [.inr 5, .inl v1, .inl v2] [] σ Q := by
  refine fb_aload_n dd_Mo_with_0 rfl (by decide) (fb_dup dd_Mo_with_1 (fb_getI (x := σ.1 181) 5 21 dd_Mo_with_2 rfl rfl rfl (by decide) lk_Mo_116 rfl (fb_iconst dd_Mo_with_5 (fb_iadd dd_Mo_with_6 (fb_putI 5 21 dd_Mo_with_7 rfl rfl rfl (by decide) rfl (by decide +kernel) lk_Mo_116 (fb_iload_n dd_Mo_with_10 rfl (fb_sipush dd_Mo_with_11 (by decide) ?_)))))))
  obtain ⟨q1, h⟩ := h
  refine fb_icmp_lt (tgt := 35) dd_Mo_with_14 rfl q1 (by decide) (fun hc => ?_) (fun hc => ?_)
  · replace h := h.1 hc
    refine fb_aload_n dd_Mo_with_35 rfl (by decide) (fb_bipush dd_Mo_with_36 (by decide) (fb_iload_n dd_Mo_with_38 rfl (fb_imul dd_Mo_with_39 (fb_iload_n dd_Mo_with_40 rfl (fb_bipush dd_Mo_with_41 (by decide) ?_)))))
    refine fb_icmp_ge (tgt := 50) dd_Mo_with_43 rfl q1 (by decide) (fun hc => ?_) (fun hc => ?_)
    · replace h := h.1 hc
      refine fb_iconst dd_Mo_with_50 (fb_iadd dd_Mo_with_51 ?_)
      refine fb_callVv (z := fb_Mo_put) (k := 5) (vs := [.inl ((8 * v1) + 3)]) (st := []) dd_Mo_with_52 vw_Mo_112 (by decide) rfl rfl rfl (np := 1) (by decide +kernel) rfl rfl rfl rfl rfl (fb_mono h (fun r2 s3 h => ?_))
      refine fb_aload_n dd_Mo_with_55 rfl (by decide) (fb_iload_n dd_Mo_with_56 rfl ?_)
      refine fb_callVv (z := fb_Mo_put) (k := 5) (vs := [.inl v2]) (st := []) dd_Mo_with_57 vw_Mo_112 (by decide) rfl rfl rfl (np := 1) (by decide +kernel) rfl rfl rfl rfl rfl (fb_mono h (fun r4 s5 h => ?_))
      refine fb_iload_n dd_Mo_with_60 rfl (fb_bipush dd_Mo_with_61 (by decide) ?_)
      refine fb_icmp_lt (tgt := 71) dd_Mo_with_63 rfl q1 (by decide) (fun hc => ?_) (fun hc => ?_)
      · replace h := h.1 hc
        exact h
      · replace h := h.2 hc
        refine fb_aload_n dd_Mo_with_66 rfl (by decide) (fb_iconst dd_Mo_with_67 ?_)
        refine fb_callVv (z := fb_Mo_put) (k := 5) (vs := [.inl 0]) (st := []) dd_Mo_with_68 vw_Mo_112 (by decide) rfl rfl rfl (np := 1) (by decide +kernel) rfl rfl rfl rfl rfl (fb_mono h (fun r6 s7 h => ?_))
        exact h
    · replace h := h.2 hc
      refine fb_iconst dd_Mo_with_46 (fb_goto (tgt := 51) dd_Mo_with_47 rfl (fb_iadd dd_Mo_with_51 ?_))
      refine fb_callVv (z := fb_Mo_put) (k := 5) (vs := [.inl ((8 * v1) + 2)]) (st := []) dd_Mo_with_52 vw_Mo_112 (by decide) rfl rfl rfl (np := 1) (by decide +kernel) rfl rfl rfl rfl rfl (fb_mono h (fun r8 s9 h => ?_))
      refine fb_aload_n dd_Mo_with_55 rfl (by decide) (fb_iload_n dd_Mo_with_56 rfl ?_)
      refine fb_callVv (z := fb_Mo_put) (k := 5) (vs := [.inl v2]) (st := []) dd_Mo_with_57 vw_Mo_112 (by decide) rfl rfl rfl (np := 1) (by decide +kernel) rfl rfl rfl rfl rfl (fb_mono h (fun r10 s11 h => ?_))
      refine fb_iload_n dd_Mo_with_60 rfl (fb_bipush dd_Mo_with_61 (by decide) ?_)
      refine fb_icmp_lt (tgt := 71) dd_Mo_with_63 rfl q1 (by decide) (fun hc => ?_) (fun hc => ?_)
      · replace h := h.1 hc
        exact h
      · replace h := h.2 hc
        refine fb_aload_n dd_Mo_with_66 rfl (by decide) (fb_iconst dd_Mo_with_67 ?_)
        refine fb_callVv (z := fb_Mo_put) (k := 5) (vs := [.inl 0]) (st := []) dd_Mo_with_68 vw_Mo_112 (by decide) rfl rfl rfl (np := 1) (by decide +kernel) rfl rfl rfl rfl rfl (fb_mono h (fun r12 s13 h => ?_))
        exact h
  · replace h := h.2 hc
    refine fb_aload_n dd_Mo_with_17 rfl (by decide) (fb_bipush dd_Mo_with_18 (by decide) (fb_iload_n dd_Mo_with_20 rfl (fb_imul dd_Mo_with_21 (fb_iconst dd_Mo_with_22 (fb_iadd dd_Mo_with_23 ?_)))))
    refine fb_callVv (z := fb_Mo_put) (k := 5) (vs := [.inl ((8 * v1) + 1)]) (st := []) dd_Mo_with_24 vw_Mo_112 (by decide) rfl rfl rfl (np := 1) (by decide +kernel) rfl rfl rfl rfl rfl (fb_mono h (fun r14 s15 h => ?_))
    refine fb_aload_n dd_Mo_with_27 rfl (by decide) (fb_iload_n dd_Mo_with_28 rfl ?_)
    refine fb_callVv (z := fb_Mo_put) (k := 5) (vs := [.inl v2]) (st := []) dd_Mo_with_29 vw_Mo_112 (by decide) rfl rfl rfl (np := 1) (by decide +kernel) rfl rfl rfl rfl rfl (fb_mono h (fun r16 s17 h => ?_))
    refine fb_goto (tgt := 71) dd_Mo_with_32 rfl ?_
    exact h
theorem Mo_with_b71 {E : fb_E} {σ : fb_S} {Q : Int → fb_S → Prop} (v1 v2 : Int) (h : (-2147483648 ≤ v1 ∧ v1 < 2147483648) ∧ ((v1 = 0 → Q 0 (fb_sg σ 175 v2)) ∧ (¬ v1 = 0 → (¬ v1 = 1 → (v1 < 2 → (v1 = 7 → (-2147483648 ≤ (σ.1 175) ∧ (σ.1 175) < 2147483648) ∧ ((-2147483648 ≤ v2 ∧ v2 < 2147483648) ∧ ((¬ (σ.1 175) = v2 → Q 0 σ) ∧ ((σ.1 175) = v2 → Q 0 (fb_sg σ 175 (-1)))))) ∧ (¬ v1 = 7 → (¬ v1 = 8 → Q 0 σ) ∧ (v1 = 8 → (-2147483648 ≤ (σ.1 175) ∧ (σ.1 175) < 2147483648) ∧ ((-2147483648 ≤ v2 ∧ v2 < 2147483648) ∧ ((¬ (σ.1 175) = v2 → Q 0 σ) ∧ ((σ.1 175) = v2 → Q 0 (fb_sg σ 175 (-1)))))))) ∧ (¬ v1 < 2 → (v1 ≤ 6 → Q 0 (fb_sg σ 175 (-1))) ∧ (¬ v1 ≤ 6 → (v1 = 7 → (-2147483648 ≤ (σ.1 175) ∧ (σ.1 175) < 2147483648) ∧ ((-2147483648 ≤ v2 ∧ v2 < 2147483648) ∧ ((¬ (σ.1 175) = v2 → Q 0 σ) ∧ ((σ.1 175) = v2 → Q 0 (fb_sg σ 175 (-1)))))) ∧ (¬ v1 = 7 → (¬ v1 = 8 → Q 0 σ) ∧ (v1 = 8 → (-2147483648 ≤ (σ.1 175) ∧ (σ.1 175) < 2147483648) ∧ ((-2147483648 ≤ v2 ∧ v2 < 2147483648) ∧ ((¬ (σ.1 175) = v2 → Q 0 σ) ∧ ((σ.1 175) = v2 → Q 0 (fb_sg σ 175 (-1)))))))))) ∧ (v1 = 1 → Q 0 (fb_sg σ 175 v2))))) : fb_V E fb_Mo_with 71 [.inr 5, .inl v1, .inl v2] [] σ Q := by
  refine fb_iload_n dd_Mo_with_71 rfl ?_
  obtain ⟨q1, h⟩ := h
  refine fb_if_eq (tgt := 80) dd_Mo_with_72 rfl q1 (fun hc => ?_) (fun hc => ?_)
  · replace h := h.1 hc
    refine fb_aload_n dd_Mo_with_80 rfl (by decide) (fb_iload_n dd_Mo_with_81 rfl (fb_putI 5 15 dd_Mo_with_82 rfl rfl rfl (by decide) rfl (by decide +kernel) lk_Mo_119 (fb_goto (tgt := 124) dd_Mo_with_85 rfl ?_)))
    exact fb_vret dd_Mo_with_124 rfl h
  · replace h := h.2 hc
    refine fb_iload_n dd_Mo_with_75 rfl (fb_iconst dd_Mo_with_76 ?_)
    refine fb_icmp_ne (tgt := 88) dd_Mo_with_77 rfl q1 (by decide) (fun hc => ?_) (fun hc => ?_)
    · replace h := h.1 hc
      refine fb_iload_n dd_Mo_with_88 rfl (fb_iconst dd_Mo_with_89 ?_)
      refine fb_icmp_lt (tgt := 99) dd_Mo_with_90 rfl q1 (by decide) (fun hc => ?_) (fun hc => ?_)
      · replace h := h.1 hc
        refine fb_iload_n dd_Mo_with_99 rfl (fb_bipush dd_Mo_with_100 (by decide) ?_)
        refine fb_icmp_eq (tgt := 111) dd_Mo_with_102 rfl q1 (by decide) (fun hc => ?_) (fun hc => ?_)
        · replace h := h.1 hc
          refine fb_aload_n dd_Mo_with_111 rfl (by decide) (fb_getI (x := σ.1 175) 5 15 dd_Mo_with_112 rfl rfl rfl (by decide) lk_Mo_119 rfl (fb_iload_n dd_Mo_with_115 rfl ?_))
          obtain ⟨q2, h⟩ := h
          obtain ⟨q3, h⟩ := h
          refine fb_icmp_ne (tgt := 124) dd_Mo_with_116 rfl q2 q3 (fun hc => ?_) (fun hc => ?_)
          · replace h := h.1 hc
            exact fb_vret dd_Mo_with_124 rfl h
          · replace h := h.2 hc
            refine fb_aload_n dd_Mo_with_119 rfl (by decide) (fb_iconst dd_Mo_with_120 (fb_putI 5 15 dd_Mo_with_121 rfl rfl rfl (by decide) rfl (by decide +kernel) lk_Mo_119 ?_))
            exact fb_vret dd_Mo_with_124 rfl h
        · replace h := h.2 hc
          refine fb_iload_n dd_Mo_with_105 rfl (fb_bipush dd_Mo_with_106 (by decide) ?_)
          refine fb_icmp_ne (tgt := 124) dd_Mo_with_108 rfl q1 (by decide) (fun hc => ?_) (fun hc => ?_)
          · replace h := h.1 hc
            exact fb_vret dd_Mo_with_124 rfl h
          · replace h := h.2 hc
            refine fb_aload_n dd_Mo_with_111 rfl (by decide) (fb_getI (x := σ.1 175) 5 15 dd_Mo_with_112 rfl rfl rfl (by decide) lk_Mo_119 rfl (fb_iload_n dd_Mo_with_115 rfl ?_))
            obtain ⟨q4, h⟩ := h
            obtain ⟨q5, h⟩ := h
            refine fb_icmp_ne (tgt := 124) dd_Mo_with_116 rfl q4 q5 (fun hc => ?_) (fun hc => ?_)
            · replace h := h.1 hc
              exact fb_vret dd_Mo_with_124 rfl h
            · replace h := h.2 hc
              refine fb_aload_n dd_Mo_with_119 rfl (by decide) (fb_iconst dd_Mo_with_120 (fb_putI 5 15 dd_Mo_with_121 rfl rfl rfl (by decide) rfl (by decide +kernel) lk_Mo_119 ?_))
              exact fb_vret dd_Mo_with_124 rfl h
      · replace h := h.2 hc
        refine fb_iload_n dd_Mo_with_93 rfl (fb_bipush dd_Mo_with_94 (by decide) ?_)
        refine fb_icmp_le (tgt := 119) dd_Mo_with_96 rfl q1 (by decide) (fun hc => ?_) (fun hc => ?_)
        · replace h := h.1 hc
          refine fb_aload_n dd_Mo_with_119 rfl (by decide) (fb_iconst dd_Mo_with_120 (fb_putI 5 15 dd_Mo_with_121 rfl rfl rfl (by decide) rfl (by decide +kernel) lk_Mo_119 ?_))
          exact fb_vret dd_Mo_with_124 rfl h
        · replace h := h.2 hc
          refine fb_iload_n dd_Mo_with_99 rfl (fb_bipush dd_Mo_with_100 (by decide) ?_)
          refine fb_icmp_eq (tgt := 111) dd_Mo_with_102 rfl q1 (by decide) (fun hc => ?_) (fun hc => ?_)
          · replace h := h.1 hc
            refine fb_aload_n dd_Mo_with_111 rfl (by decide) (fb_getI (x := σ.1 175) 5 15 dd_Mo_with_112 rfl rfl rfl (by decide) lk_Mo_119 rfl (fb_iload_n dd_Mo_with_115 rfl ?_))
            obtain ⟨q6, h⟩ := h
            obtain ⟨q7, h⟩ := h
            refine fb_icmp_ne (tgt := 124) dd_Mo_with_116 rfl q6 q7 (fun hc => ?_) (fun hc => ?_)
            · replace h := h.1 hc
              exact fb_vret dd_Mo_with_124 rfl h
            · replace h := h.2 hc
              refine fb_aload_n dd_Mo_with_119 rfl (by decide) (fb_iconst dd_Mo_with_120 (fb_putI 5 15 dd_Mo_with_121 rfl rfl rfl (by decide) rfl (by decide +kernel) lk_Mo_119 ?_))
              exact fb_vret dd_Mo_with_124 rfl h
          · replace h := h.2 hc
            refine fb_iload_n dd_Mo_with_105 rfl (fb_bipush dd_Mo_with_106 (by decide) ?_)
            refine fb_icmp_ne (tgt := 124) dd_Mo_with_108 rfl q1 (by decide) (fun hc => ?_) (fun hc => ?_)
            · replace h := h.1 hc
              exact fb_vret dd_Mo_with_124 rfl h
            · replace h := h.2 hc
              refine fb_aload_n dd_Mo_with_111 rfl (by decide) (fb_getI (x := σ.1 175) 5 15 dd_Mo_with_112 rfl rfl rfl (by decide) lk_Mo_119 rfl (fb_iload_n dd_Mo_with_115 rfl ?_))
              obtain ⟨q8, h⟩ := h
              obtain ⟨q9, h⟩ := h
              refine fb_icmp_ne (tgt := 124) dd_Mo_with_116 rfl q8 q9 (fun hc => ?_) (fun hc => ?_)
              · replace h := h.1 hc
                exact fb_vret dd_Mo_with_124 rfl h
              · replace h := h.2 hc
                refine fb_aload_n dd_Mo_with_119 rfl (by decide) (fb_iconst dd_Mo_with_120 (fb_putI 5 15 dd_Mo_with_121 rfl rfl rfl (by decide) rfl (by decide +kernel) lk_Mo_119 ?_))
                exact fb_vret dd_Mo_with_124 rfl h
    · replace h := h.2 hc
      refine fb_aload_n dd_Mo_with_80 rfl (by decide) (fb_iload_n dd_Mo_with_81 rfl (fb_putI 5 15 dd_Mo_with_82 rfl rfl rfl (by decide) rfl (by decide +kernel) lk_Mo_119 (fb_goto (tgt := 124) dd_Mo_with_85 rfl ?_)))
      exact fb_vret dd_Mo_with_124 rfl h

theorem Mo_indexed_b0 {E : fb_E} {σ : fb_S} {Q : Int → fb_S → Prop} (v1 v2 : Int) (h : (-2147483648 ≤ v2 ∧ v2 < 2147483648) ∧ ((16 ≤ v2 → fb_V E fb_Mo_put 0 [.inr 5, .inl ((8 * v1) + 5)] [] (fb_sg σ 181 ((σ.1 181) + 1)) (fun _ s3 => fb_V E fb_Mo_put 0 [.inr 5, .inl v2] [] s3 (fun _ s5 => (v2 < 16 → (-2147483648 ≤ v1 ∧ v1 < 2147483648) ∧ ((¬ v1 = 0 → Q 0 s5) ∧ (v1 = 0 → Q 0 (fb_sg s5 175 (-1))))) ∧ (¬ v2 < 16 → fb_V E fb_Mo_put 0 [.inr 5, .inl 0] [] s5 (fun _ s8 => (-2147483648 ≤ v1 ∧ v1 < 2147483648) ∧ ((¬ v1 = 0 → Q 0 s8) ∧ (v1 = 0 → Q 0 (fb_sg s8 175 (-1))))))))) ∧ (¬ 16 ≤ v2 → fb_V E fb_Mo_put 0 [.inr 5, .inl ((8 * v1) + 4)] [] (fb_sg σ 181 ((σ.1 181) + 1)) (fun _ s11 => fb_V E fb_Mo_put 0 [.inr 5, .inl v2] [] s11 (fun _ s13 => (v2 < 16 → (-2147483648 ≤ v1 ∧ v1 < 2147483648) ∧ ((¬ v1 = 0 → Q 0 s13) ∧ (v1 = 0 → Q 0 (fb_sg s13 175 (-1))))) ∧ (¬ v2 < 16 → fb_V E fb_Mo_put 0 [.inr 5, .inl 0] [] s13 (fun _ s16 => (-2147483648 ≤ v1 ∧ v1 < 2147483648) ∧ ((¬ v1 = 0 → Q 0 s16) ∧ (v1 = 0 → Q 0 (fb_sg s16 175 (-1))))))))))) : fb_V E fb_Mo_indexed 0 [.inr 5, .inl v1, .inl v2] [] σ Q := by
  refine fb_aload_n dd_Mo_indexed_0 rfl (by decide) (fb_dup dd_Mo_indexed_1 (fb_getI (x := σ.1 181) 5 21 dd_Mo_indexed_2 rfl rfl rfl (by decide) lk_Mo_116 rfl (fb_iconst dd_Mo_indexed_5 (fb_iadd dd_Mo_indexed_6 (fb_putI 5 21 dd_Mo_indexed_7 rfl rfl rfl (by decide) rfl (by decide +kernel) lk_Mo_116 (fb_aload_n dd_Mo_indexed_10 rfl (by decide) (fb_bipush dd_Mo_indexed_11 (by decide) ?_)))))))
  refine fb_iload_n dd_Mo_indexed_13 rfl (fb_imul dd_Mo_indexed_14 (fb_iload_n dd_Mo_indexed_15 rfl (fb_bipush dd_Mo_indexed_16 (by decide) ?_)))
  obtain ⟨q1, h⟩ := h
  refine fb_icmp_ge (tgt := 25) dd_Mo_indexed_18 rfl q1 (by decide) (fun hc => ?_) (fun hc => ?_)
  · replace h := h.1 hc
    refine fb_iconst dd_Mo_indexed_25 (fb_iadd dd_Mo_indexed_26 ?_)
    refine fb_callVv (z := fb_Mo_put) (k := 5) (vs := [.inl ((8 * v1) + 5)]) (st := []) dd_Mo_indexed_27 vw_Mo_112 (by decide) rfl rfl rfl (np := 1) (by decide +kernel) rfl rfl rfl rfl rfl (fb_mono h (fun r2 s3 h => ?_))
    refine fb_aload_n dd_Mo_indexed_30 rfl (by decide) (fb_iload_n dd_Mo_indexed_31 rfl ?_)
    refine fb_callVv (z := fb_Mo_put) (k := 5) (vs := [.inl v2]) (st := []) dd_Mo_indexed_32 vw_Mo_112 (by decide) rfl rfl rfl (np := 1) (by decide +kernel) rfl rfl rfl rfl rfl (fb_mono h (fun r4 s5 h => ?_))
    refine fb_iload_n dd_Mo_indexed_35 rfl (fb_bipush dd_Mo_indexed_36 (by decide) ?_)
    refine fb_icmp_lt (tgt := 46) dd_Mo_indexed_38 rfl q1 (by decide) (fun hc => ?_) (fun hc => ?_)
    · replace h := h.1 hc
      refine fb_iload_n dd_Mo_indexed_46 rfl ?_
      obtain ⟨q6, h⟩ := h
      refine fb_if_ne (tgt := 55) dd_Mo_indexed_47 rfl q6 (fun hc => ?_) (fun hc => ?_)
      · replace h := h.1 hc
        exact fb_vret dd_Mo_indexed_55 rfl h
      · replace h := h.2 hc
        refine fb_aload_n dd_Mo_indexed_50 rfl (by decide) (fb_iconst dd_Mo_indexed_51 (fb_putI 5 15 dd_Mo_indexed_52 rfl rfl rfl (by decide) rfl (by decide +kernel) lk_Mo_119 ?_))
        exact fb_vret dd_Mo_indexed_55 rfl h
    · replace h := h.2 hc
      refine fb_aload_n dd_Mo_indexed_41 rfl (by decide) (fb_iconst dd_Mo_indexed_42 ?_)
      refine fb_callVv (z := fb_Mo_put) (k := 5) (vs := [.inl 0]) (st := []) dd_Mo_indexed_43 vw_Mo_112 (by decide) rfl rfl rfl (np := 1) (by decide +kernel) rfl rfl rfl rfl rfl (fb_mono h (fun r7 s8 h => ?_))
      refine fb_iload_n dd_Mo_indexed_46 rfl ?_
      obtain ⟨q9, h⟩ := h
      refine fb_if_ne (tgt := 55) dd_Mo_indexed_47 rfl q9 (fun hc => ?_) (fun hc => ?_)
      · replace h := h.1 hc
        exact fb_vret dd_Mo_indexed_55 rfl h
      · replace h := h.2 hc
        refine fb_aload_n dd_Mo_indexed_50 rfl (by decide) (fb_iconst dd_Mo_indexed_51 (fb_putI 5 15 dd_Mo_indexed_52 rfl rfl rfl (by decide) rfl (by decide +kernel) lk_Mo_119 ?_))
        exact fb_vret dd_Mo_indexed_55 rfl h
  · replace h := h.2 hc
    refine fb_iconst dd_Mo_indexed_21 (fb_goto (tgt := 26) dd_Mo_indexed_22 rfl (fb_iadd dd_Mo_indexed_26 ?_))
    refine fb_callVv (z := fb_Mo_put) (k := 5) (vs := [.inl ((8 * v1) + 4)]) (st := []) dd_Mo_indexed_27 vw_Mo_112 (by decide) rfl rfl rfl (np := 1) (by decide +kernel) rfl rfl rfl rfl rfl (fb_mono h (fun r10 s11 h => ?_))
    refine fb_aload_n dd_Mo_indexed_30 rfl (by decide) (fb_iload_n dd_Mo_indexed_31 rfl ?_)
    refine fb_callVv (z := fb_Mo_put) (k := 5) (vs := [.inl v2]) (st := []) dd_Mo_indexed_32 vw_Mo_112 (by decide) rfl rfl rfl (np := 1) (by decide +kernel) rfl rfl rfl rfl rfl (fb_mono h (fun r12 s13 h => ?_))
    refine fb_iload_n dd_Mo_indexed_35 rfl (fb_bipush dd_Mo_indexed_36 (by decide) ?_)
    refine fb_icmp_lt (tgt := 46) dd_Mo_indexed_38 rfl q1 (by decide) (fun hc => ?_) (fun hc => ?_)
    · replace h := h.1 hc
      refine fb_iload_n dd_Mo_indexed_46 rfl ?_
      obtain ⟨q14, h⟩ := h
      refine fb_if_ne (tgt := 55) dd_Mo_indexed_47 rfl q14 (fun hc => ?_) (fun hc => ?_)
      · replace h := h.1 hc
        exact fb_vret dd_Mo_indexed_55 rfl h
      · replace h := h.2 hc
        refine fb_aload_n dd_Mo_indexed_50 rfl (by decide) (fb_iconst dd_Mo_indexed_51 (fb_putI 5 15 dd_Mo_indexed_52 rfl rfl rfl (by decide) rfl (by decide +kernel) lk_Mo_119 ?_))
        exact fb_vret dd_Mo_indexed_55 rfl h
    · replace h := h.2 hc
      refine fb_aload_n dd_Mo_indexed_41 rfl (by decide) (fb_iconst dd_Mo_indexed_42 ?_)
      refine fb_callVv (z := fb_Mo_put) (k := 5) (vs := [.inl 0]) (st := []) dd_Mo_indexed_43 vw_Mo_112 (by decide) rfl rfl rfl (np := 1) (by decide +kernel) rfl rfl rfl rfl rfl (fb_mono h (fun r15 s16 h => ?_))
      refine fb_iload_n dd_Mo_indexed_46 rfl ?_
      obtain ⟨q17, h⟩ := h
      refine fb_if_ne (tgt := 55) dd_Mo_indexed_47 rfl q17 (fun hc => ?_) (fun hc => ?_)
      · replace h := h.1 hc
        exact fb_vret dd_Mo_indexed_55 rfl h
      · replace h := h.2 hc
        refine fb_aload_n dd_Mo_indexed_50 rfl (by decide) (fb_iconst dd_Mo_indexed_51 (fb_putI 5 15 dd_Mo_indexed_52 rfl rfl rfl (by decide) rfl (by decide +kernel) lk_Mo_119 ?_))
        exact fb_vret dd_Mo_indexed_55 rfl h

theorem Mo_to_b0 {E : fb_E} {σ : fb_S} {Q : Int → fb_S → Prop} (v1 v2 : Int) (h : fb_V E fb_Mo_put 0 [.inr 5, .inl ((8 * v1) + 7)] [] (fb_sg σ 181 ((σ.1 181) + 1)) (fun _ s2 => fb_V E fb_Mo_put 0 [.inr 5, .inl v2] [] s2 (fun _ s4 => (-2147483648 ≤ v2 ∧ v2 < 2147483648) ∧ (fb_V E fb_Mo_put 0 [.inr 5, .inl (v2 / 256)] [] s4 (fun _ s7 => (-2147483648 ≤ v1 ∧ v1 < 2147483648) ∧ ((¬ v1 = 19 → Q 0 s7) ∧ (v1 = 19 → Q 0 (fb_sg s7 175 (-1))))))))) : fb_V E fb_Mo_to 0 [.inr 5, .inl v1, .inl v2] [] σ Q := by
  refine fb_aload_n dd_Mo_to_0 rfl (by decide) (fb_dup dd_Mo_to_1 (fb_getI (x := σ.1 181) 5 21 dd_Mo_to_2 rfl rfl rfl (by decide) lk_Mo_116 rfl (fb_iconst dd_Mo_to_5 (fb_iadd dd_Mo_to_6 (fb_putI 5 21 dd_Mo_to_7 rfl rfl rfl (by decide) rfl (by decide +kernel) lk_Mo_116 (fb_aload_n dd_Mo_to_10 rfl (by decide) (fb_bipush dd_Mo_to_11 (by decide) ?_)))))))
  refine fb_iload_n dd_Mo_to_13 rfl (fb_imul dd_Mo_to_14 (fb_bipush dd_Mo_to_15 (by decide) (fb_iadd dd_Mo_to_17 ?_)))
  refine fb_callVv (z := fb_Mo_put) (k := 5) (vs := [.inl ((8 * v1) + 7)]) (st := []) dd_Mo_to_18 vw_Mo_112 (by decide) rfl rfl rfl (np := 1) (by decide +kernel) rfl rfl rfl rfl rfl (fb_mono h (fun r1 s2 h => ?_))
  refine fb_aload_n dd_Mo_to_21 rfl (by decide) (fb_iload_n dd_Mo_to_22 rfl ?_)
  refine fb_callVv (z := fb_Mo_put) (k := 5) (vs := [.inl v2]) (st := []) dd_Mo_to_23 vw_Mo_112 (by decide) rfl rfl rfl (np := 1) (by decide +kernel) rfl rfl rfl rfl rfl (fb_mono h (fun r3 s4 h => ?_))
  refine fb_aload_n dd_Mo_to_26 rfl (by decide) (fb_iload_n dd_Mo_to_27 rfl (fb_bipush dd_Mo_to_28 (by decide) ?_))
  obtain ⟨q5, h⟩ := h
  refine fb_ishrC 8 (p := 256) (by decide) (by decide) (by decide) dd_Mo_to_30 q5 ?_
  refine fb_callVv (z := fb_Mo_put) (k := 5) (vs := [.inl (v2 / 256)]) (st := []) dd_Mo_to_31 vw_Mo_112 (by decide) rfl rfl rfl (np := 1) (by decide +kernel) rfl rfl rfl rfl rfl (fb_mono h (fun r6 s7 h => ?_))
  refine fb_iload_n dd_Mo_to_34 rfl (fb_bipush dd_Mo_to_35 (by decide) ?_)
  obtain ⟨q8, h⟩ := h
  refine fb_icmp_ne (tgt := 45) dd_Mo_to_37 rfl q8 (by decide) (fun hc => ?_) (fun hc => ?_)
  · replace h := h.1 hc
    exact fb_vret dd_Mo_to_45 rfl h
  · replace h := h.2 hc
    refine fb_aload_n dd_Mo_to_40 rfl (by decide) (fb_iconst dd_Mo_to_41 (fb_putI 5 15 dd_Mo_to_42 rfl rfl rfl (by decide) rfl (by decide +kernel) lk_Mo_119 ?_))
    exact fb_vret dd_Mo_to_45 rfl h

theorem Mo_load_b0 {E : fb_E} {σ : fb_S} {Q : Int → fb_S → Prop} (v1 : Int) (h : (-2147483648 ≤ (σ.1 175) ∧ (σ.1 175) < 2147483648) ∧ ((-2147483648 ≤ v1 ∧ v1 < 2147483648) ∧ (((σ.1 175) = v1 → Q 0 σ) ∧ (¬ (σ.1 175) = v1 → fb_V E fb_Mo_with 0 [.inr 5, .inl 0, .inl v1] [] σ (fun _ s4 => Q 0 s4))))) : fb_V E fb_Mo_load 0 [.inr 5, .inl v1] [] σ Q := by
  refine fb_aload_n dd_Mo_load_0 rfl (by decide) (fb_getI (x := σ.1 175) 5 15 dd_Mo_load_1 rfl rfl rfl (by decide) lk_Mo_119 rfl (fb_iload_n dd_Mo_load_4 rfl ?_))
  obtain ⟨q1, h⟩ := h
  obtain ⟨q2, h⟩ := h
  refine fb_icmp_eq (tgt := 14) dd_Mo_load_5 rfl q1 q2 (fun hc => ?_) (fun hc => ?_)
  · replace h := h.1 hc
    exact fb_vret dd_Mo_load_14 rfl h
  · replace h := h.2 hc
    refine fb_aload_n dd_Mo_load_8 rfl (by decide) (fb_iconst dd_Mo_load_9 (fb_iload_n dd_Mo_load_10 rfl ?_))
    refine fb_callVv (z := fb_Mo_with) (k := 5) (vs := [.inl 0, .inl v1]) (st := []) dd_Mo_load_11 vw_Mo_122 (by decide) rfl rfl rfl (np := 2) (by decide +kernel) rfl rfl rfl rfl rfl (fb_mono h (fun r3 s4 h => ?_))
    exact fb_vret dd_Mo_load_14 rfl h

theorem Mo_move_b0 {E : fb_E} {σ : fb_S} {Q : Int → fb_S → Prop} (v1 v2 : Int) (h : fb_V E fb_Mo_load 0 [.inr 5, .inl v1] [] σ (fun _ s2 => fb_V E fb_Mo_with 0 [.inr 5, .inl 1, .inl v2] [] s2 (fun _ s4 => Q 0 s4))) : fb_V E fb_Mo_move 0 [.inr 5, .inl v1, .inl v2] [] σ Q := by
  refine fb_aload_n dd_Mo_move_0 rfl (by decide) (fb_iload_n dd_Mo_move_1 rfl ?_)
  refine fb_callVv (z := fb_Mo_load) (k := 5) (vs := [.inl v1]) (st := []) dd_Mo_move_2 vw_Mo_126 (by decide) rfl rfl rfl (np := 1) (by decide +kernel) rfl rfl rfl rfl rfl (fb_mono h (fun r1 s2 h => ?_))
  refine fb_aload_n dd_Mo_move_5 rfl (by decide) (fb_iconst dd_Mo_move_6 (fb_iload_n dd_Mo_move_7 rfl ?_))
  refine fb_callVv (z := fb_Mo_with) (k := 5) (vs := [.inl 1, .inl v2]) (st := []) dd_Mo_move_8 vw_Mo_122 (by decide) rfl rfl rfl (np := 2) (by decide +kernel) rfl rfl rfl rfl rfl (fb_mono h (fun r3 s4 h => ?_))
  exact fb_vret dd_Mo_move_11 rfl h

theorem Mo_branch_b0 {E : fb_E} {σ : fb_S} {Q : Int → fb_S → Prop} (v1 v2 : Int) (h : (0 ≤ v1 ∧ v1 < 2147483648) ∧ (fb_V E fb_Mo_goal 0 [.inr 5, .inl v1] [] σ (fun r2 s3 => (0 ≤ ((24 * (v1 / 24)) + r2) ∧ ((24 * (v1 / 24)) + r2) < 144) ∧ ((0 ≤ v1 ∧ v1 < 144) ∧ ((-2147483648 ≤ (s3.2 52 v1) ∧ (s3.2 52 v1) < 2147483648) ∧ (((s3.2 52 v1) = 0 → fb_V E fb_Mo_put 0 [.inr 5, .inl ((8 * v2) + 6)] [] s3 (fun _ s8 => fb_V E fb_Mo_put 0 [.inr 5, .inl (((s3.2 50 ((24 * (v1 / 24)) + r2)) - (s8.1 173)) - 1)] [] s8 (fun _ s10 => Q 0 s10))) ∧ (¬ (s3.2 52 v1) = 0 → fb_V E fb_Mo_put 0 [.inr 5, .inl ((8 * (v2 + 1)) + 6)] [] s3 (fun _ s12 => fb_V E fb_Mo_put 0 [.inr 5, .inl 3] [] s12 (fun _ s14 => fb_V E fb_Mo_to 0 [.inr 5, .inl 18, .inl (s3.2 50 ((24 * (v1 / 24)) + r2))] [] s14 (fun _ s16 => Q 0 (fb_sg s16 181 ((s16.1 181) - 1)))))))))))) : fb_V E fb_Mo_branch 0 [.inr 5, .inl v1, .inl v2, .inr 999, .inr 999] [] σ Q := by
  refine fb_iload_n dd_Mo_branch_0 rfl (fb_bipush dd_Mo_branch_1 (by decide) ?_)
  obtain ⟨q1, h⟩ := h
  refine fb_idiv dd_Mo_branch_3 q1 (by decide) (fb_istore_n dd_Mo_branch_4 rfl rfl rfl (fb_aload_n dd_Mo_branch_5 rfl (by decide) (fb_getR 5 16 dd_Mo_branch_6 rfl rfl rfl (by decide) lk_Mo_41 (fb_bipush dd_Mo_branch_9 (by decide) (fb_iload_n dd_Mo_branch_11 rfl (fb_imul dd_Mo_branch_12 (fb_aload_n dd_Mo_branch_13 rfl (by decide) ?_)))))))
  refine fb_iload_n dd_Mo_branch_14 rfl ?_
  refine fb_callVi (z := fb_Mo_goal) (k := 5) (vs := [.inl v1]) (st := [.inl (24 * (v1 / 24)), .inr 50]) dd_Mo_branch_15 vw_Mo_98 (by decide) ⟨_, rfl⟩ rfl rfl (np := 1) (by decide +kernel) rfl rfl rfl rfl rfl (fb_mono h (fun r2 s3 h => ?_))
  refine fb_iadd dd_Mo_branch_18 ?_
  obtain ⟨q4, h⟩ := h
  refine fb_ild (x := s3.2 50 ((24 * (v1 / 24)) + r2)) dd_Mo_branch_19 rfl q4 rfl (fb_istore dd_Mo_branch_20 rfl rfl rfl (fb_aload_n dd_Mo_branch_22 rfl (by decide) (fb_getR 5 18 dd_Mo_branch_23 rfl rfl rfl (by decide) lk_Mo_47 (fb_iload_n dd_Mo_branch_26 rfl ?_))))
  obtain ⟨q5, h⟩ := h
  refine fb_zld (x := s3.2 52 v1) dd_Mo_branch_27 rfl q5 rfl ?_
  obtain ⟨q6, h⟩ := h
  refine fb_if_eq (tgt := 70) dd_Mo_branch_28 rfl q6 (fun hc => ?_) (fun hc => ?_)
  · replace h := h.1 hc
    refine fb_aload_n dd_Mo_branch_70 rfl (by decide) (fb_bipush dd_Mo_branch_71 (by decide) (fb_iload_n dd_Mo_branch_73 rfl (fb_imul dd_Mo_branch_74 (fb_bipush dd_Mo_branch_75 (by decide) (fb_iadd dd_Mo_branch_77 ?_)))))
    refine fb_callVv (z := fb_Mo_put) (k := 5) (vs := [.inl ((8 * v2) + 6)]) (st := []) dd_Mo_branch_78 vw_Mo_112 (by decide) rfl rfl rfl (np := 1) (by decide +kernel) rfl rfl rfl rfl rfl (fb_mono h (fun r7 s8 h => ?_))
    refine fb_aload_n dd_Mo_branch_81 rfl (by decide) (fb_iload dd_Mo_branch_82 rfl (fb_aload_n dd_Mo_branch_84 rfl (by decide) (fb_getI (x := s8.1 173) 5 13 dd_Mo_branch_85 rfl rfl rfl (by decide) lk_Mo_109 rfl (fb_isub dd_Mo_branch_88 (fb_iconst dd_Mo_branch_89 (fb_isub dd_Mo_branch_90 ?_))))))
    refine fb_callVv (z := fb_Mo_put) (k := 5) (vs := [.inl (((s3.2 50 ((24 * (v1 / 24)) + r2)) - (s8.1 173)) - 1)]) (st := []) dd_Mo_branch_91 vw_Mo_112 (by decide) rfl rfl rfl (np := 1) (by decide +kernel) rfl rfl rfl rfl rfl (fb_mono h (fun r9 s10 h => ?_))
    exact fb_vret dd_Mo_branch_94 rfl h
  · replace h := h.2 hc
    refine fb_aload_n dd_Mo_branch_31 rfl (by decide) (fb_bipush dd_Mo_branch_32 (by decide) (fb_iload_n dd_Mo_branch_34 rfl (fb_iconst dd_Mo_branch_35 (fb_iadd dd_Mo_branch_36 (fb_imul dd_Mo_branch_37 (fb_bipush dd_Mo_branch_38 (by decide) (fb_iadd dd_Mo_branch_40 ?_)))))))
    refine fb_callVv (z := fb_Mo_put) (k := 5) (vs := [.inl ((8 * (v2 + 1)) + 6)]) (st := []) dd_Mo_branch_41 vw_Mo_112 (by decide) rfl rfl rfl (np := 1) (by decide +kernel) rfl rfl rfl rfl rfl (fb_mono h (fun r11 s12 h => ?_))
    refine fb_aload_n dd_Mo_branch_44 rfl (by decide) (fb_iconst dd_Mo_branch_45 ?_)
    refine fb_callVv (z := fb_Mo_put) (k := 5) (vs := [.inl 3]) (st := []) dd_Mo_branch_46 vw_Mo_112 (by decide) rfl rfl rfl (np := 1) (by decide +kernel) rfl rfl rfl rfl rfl (fb_mono h (fun r13 s14 h => ?_))
    refine fb_aload_n dd_Mo_branch_49 rfl (by decide) (fb_bipush dd_Mo_branch_50 (by decide) (fb_iload dd_Mo_branch_52 rfl ?_))
    refine fb_callVv (z := fb_Mo_to) (k := 5) (vs := [.inl 18, .inl (s3.2 50 ((24 * (v1 / 24)) + r2))]) (st := []) dd_Mo_branch_54 vw_Mo_129 (by decide) rfl rfl rfl (np := 2) (by decide +kernel) rfl rfl rfl rfl rfl (fb_mono h (fun r15 s16 h => ?_))
    refine fb_aload_n dd_Mo_branch_57 rfl (by decide) (fb_dup dd_Mo_branch_58 (fb_getI (x := s16.1 181) 5 21 dd_Mo_branch_59 rfl rfl rfl (by decide) lk_Mo_116 rfl (fb_iconst dd_Mo_branch_62 (fb_isub dd_Mo_branch_63 (fb_putI 5 21 dd_Mo_branch_64 rfl rfl rfl (by decide) rfl (by decide +kernel) lk_Mo_116 (fb_goto (tgt := 94) dd_Mo_branch_67 rfl ?_))))))
    exact fb_vret dd_Mo_branch_94 rfl h

theorem Mo_guard_b0 {E : fb_E} {σ : fb_S} {Q : Int → fb_S → Prop} (v1 v2 : Int) (h : fb_V E fb_Mo_with 0 [.inr 5, .inl 9, .inl v1] [] σ (fun _ s2 => fb_V E fb_Mo_with 0 [.inr 5, .inl 11, .inl (256 + v2)] [] s2 (fun _ s4 => fb_V E fb_Mo_put 0 [.inr 5, .inl 134] [] s4 (fun _ s6 => fb_V E fb_Mo_put 0 [.inr 5, .inl 1] [] s6 (fun _ s8 => fb_V E fb_Mo_put 0 [.inr 5, .inl 176] [] (fb_sg s8 181 ((s8.1 181) + 1)) (fun _ s10 => Q 0 s10)))))) : fb_V E fb_Mo_guard 0 [.inr 5, .inl v1, .inl v2] [] σ Q := by
  refine fb_aload_n dd_Mo_guard_0 rfl (by decide) (fb_bipush dd_Mo_guard_1 (by decide) (fb_iload_n dd_Mo_guard_3 rfl ?_))
  refine fb_callVv (z := fb_Mo_with) (k := 5) (vs := [.inl 9, .inl v1]) (st := []) dd_Mo_guard_4 vw_Mo_122 (by decide) rfl rfl rfl (np := 2) (by decide +kernel) rfl rfl rfl rfl rfl (fb_mono h (fun r1 s2 h => ?_))
  refine fb_aload_n dd_Mo_guard_7 rfl (by decide) (fb_bipush dd_Mo_guard_8 (by decide) (fb_sipush dd_Mo_guard_10 (by decide) (fb_iload_n dd_Mo_guard_13 rfl (fb_iadd dd_Mo_guard_14 ?_))))
  refine fb_callVv (z := fb_Mo_with) (k := 5) (vs := [.inl 11, .inl (256 + v2)]) (st := []) dd_Mo_guard_15 vw_Mo_122 (by decide) rfl rfl rfl (np := 2) (by decide +kernel) rfl rfl rfl rfl rfl (fb_mono h (fun r3 s4 h => ?_))
  refine fb_aload_n dd_Mo_guard_18 rfl (by decide) (fb_sipush dd_Mo_guard_19 (by decide) ?_)
  refine fb_callVv (z := fb_Mo_put) (k := 5) (vs := [.inl 134]) (st := []) dd_Mo_guard_22 vw_Mo_112 (by decide) rfl rfl rfl (np := 1) (by decide +kernel) rfl rfl rfl rfl rfl (fb_mono h (fun r5 s6 h => ?_))
  refine fb_aload_n dd_Mo_guard_25 rfl (by decide) (fb_iconst dd_Mo_guard_26 ?_)
  refine fb_callVv (z := fb_Mo_put) (k := 5) (vs := [.inl 1]) (st := []) dd_Mo_guard_27 vw_Mo_112 (by decide) rfl rfl rfl (np := 1) (by decide +kernel) rfl rfl rfl rfl rfl (fb_mono h (fun r7 s8 h => ?_))
  refine fb_aload_n dd_Mo_guard_30 rfl (by decide) (fb_dup dd_Mo_guard_31 (fb_getI (x := s8.1 181) 5 21 dd_Mo_guard_32 rfl rfl rfl (by decide) lk_Mo_116 rfl (fb_iconst dd_Mo_guard_35 (fb_iadd dd_Mo_guard_36 (fb_putI 5 21 dd_Mo_guard_37 rfl rfl rfl (by decide) rfl (by decide +kernel) lk_Mo_116 (fb_aload_n dd_Mo_guard_40 rfl (by decide) (fb_sipush dd_Mo_guard_41 (by decide) ?_)))))))
  refine fb_callVv (z := fb_Mo_put) (k := 5) (vs := [.inl 176]) (st := []) dd_Mo_guard_44 vw_Mo_112 (by decide) rfl rfl rfl (np := 1) (by decide +kernel) rfl rfl rfl rfl rfl (fb_mono h (fun r9 s10 h => ?_))
  exact fb_vret dd_Mo_guard_47 rfl h

theorem Mo_arithmetic_b0 {E : fb_E} {σ : fb_S} {Q : Int → fb_S → Prop} (v1 v2 : Int) (h : (0 ≤ v2 ∧ v2 < 144) ∧ ((-2147483648 ≤ (σ.2 43 v2) ∧ (σ.2 43 v2) < 2147483648) ∧ ((¬ (σ.2 43 v2) = 2 → (¬ (σ.2 43 v2) = 3 → (¬ (σ.2 43 v2) = 2 → (¬ (σ.2 43 v2) = 3 → fb_V E fb_Mo_arithmetic 53 [.inr 5, .inl v1, .inl v2, .inr 999, .inl (σ.2 43 v2), .inl 0, .inr 999, .inr 999, .inr 999] [] σ Q) ∧ ((σ.2 43 v2) = 3 → fb_V E fb_Mo_plain 0 [.inr 5, .inl 13] [] σ (fun _ s4 => fb_V E fb_Mo_arithmetic 53 [.inr 5, .inl v1, .inl v2, .inr 999, .inl (σ.2 43 v2), .inl 0, .inr 999, .inr 999, .inr 999] [] s4 Q))) ∧ ((σ.2 43 v2) = 2 → fb_V E fb_Mo_plain 0 [.inr 5, .inl 12] [] σ (fun _ s6 => (¬ (σ.2 43 v2) = 3 → fb_V E fb_Mo_arithmetic 53 [.inr 5, .inl v1, .inl v2, .inr 999, .inl (σ.2 43 v2), .inl 0, .inr 999, .inr 999, .inr 999] [] s6 Q) ∧ ((σ.2 43 v2) = 3 → fb_V E fb_Mo_plain 0 [.inr 5, .inl 13] [] s6 (fun _ s8 => fb_V E fb_Mo_arithmetic 53 [.inr 5, .inl v1, .inl v2, .inr 999, .inl (σ.2 43 v2), .inl 0, .inr 999, .inr 999, .inr 999] [] s8 Q))))) ∧ ((σ.2 43 v2) = 3 → (¬ (σ.2 43 v2) = 2 → (¬ (σ.2 43 v2) = 3 → fb_V E fb_Mo_arithmetic 53 [.inr 5, .inl v1, .inl v2, .inr 999, .inl 3, .inl 0, .inr 999, .inr 999, .inr 999] [] σ Q) ∧ ((σ.2 43 v2) = 3 → fb_V E fb_Mo_plain 0 [.inr 5, .inl 13] [] σ (fun _ s10 => fb_V E fb_Mo_arithmetic 53 [.inr 5, .inl v1, .inl v2, .inr 999, .inl 3, .inl 0, .inr 999, .inr 999, .inr 999] [] s10 Q))) ∧ ((σ.2 43 v2) = 2 → fb_V E fb_Mo_plain 0 [.inr 5, .inl 12] [] σ (fun _ s12 => (¬ (σ.2 43 v2) = 3 → fb_V E fb_Mo_arithmetic 53 [.inr 5, .inl v1, .inl v2, .inr 999, .inl 3, .inl 0, .inr 999, .inr 999, .inr 999] [] s12 Q) ∧ ((σ.2 43 v2) = 3 → fb_V E fb_Mo_plain 0 [.inr 5, .inl 13] [] s12 (fun _ s14 => fb_V E fb_Mo_arithmetic 53 [.inr 5, .inl v1, .inl v2, .inr 999, .inl 3, .inl 0, .inr 999, .inr 999, .inr 999] [] s14 Q)))))) ∧ ((σ.2 43 v2) = 2 → (¬ (σ.2 43 v2) = 2 → (¬ (σ.2 43 v2) = 3 → fb_V E fb_Mo_arithmetic 53 [.inr 5, .inl v1, .inl v2, .inr 999, .inl 2, .inl 0, .inr 999, .inr 999, .inr 999] [] σ Q) ∧ ((σ.2 43 v2) = 3 → fb_V E fb_Mo_plain 0 [.inr 5, .inl 13] [] σ (fun _ s16 => fb_V E fb_Mo_arithmetic 53 [.inr 5, .inl v1, .inl v2, .inr 999, .inl 2, .inl 0, .inr 999, .inr 999, .inr 999] [] s16 Q))) ∧ ((σ.2 43 v2) = 2 → fb_V E fb_Mo_plain 0 [.inr 5, .inl 12] [] σ (fun _ s18 => (¬ (σ.2 43 v2) = 3 → fb_V E fb_Mo_arithmetic 53 [.inr 5, .inl v1, .inl v2, .inr 999, .inl 2, .inl 0, .inr 999, .inr 999, .inr 999] [] s18 Q) ∧ ((σ.2 43 v2) = 3 → fb_V E fb_Mo_plain 0 [.inr 5, .inl 13] [] s18 (fun _ s20 => fb_V E fb_Mo_arithmetic 53 [.inr 5, .inl v1, .inl v2, .inr 999, .inl 2, .inl 0, .inr 999, .inr 999, .inr 999] [] s20 Q)))))))) : fb_V E fb_Mo_arithmetic 0 [.inr 5, .inl v1, .inl v2, .inr 999, .inr 999, .inr 999, .inr 999, .inr 999, .inr 999] [] σ Q := by
  refine fb_aload_n dd_Mo_arithmetic_0 rfl (by decide) (fb_getR 5 5 dd_Mo_arithmetic_1 rfl rfl rfl (by decide) lk_Mo_19 (fb_iload_n dd_Mo_arithmetic_4 rfl ?_))
  obtain ⟨q1, h⟩ := h
  refine fb_ild (x := σ.2 43 v2) dd_Mo_arithmetic_5 rfl q1 rfl (fb_istore_n dd_Mo_arithmetic_6 rfl rfl rfl (fb_iload_n dd_Mo_arithmetic_7 rfl (fb_iconst dd_Mo_arithmetic_8 ?_)))
  obtain ⟨q2, h⟩ := h
  refine fb_icmp_ne (tgt := 16) dd_Mo_arithmetic_9 rfl q2 (by decide) (fun hc => ?_) (fun hc => ?_)
  · replace h := h.1 hc
    refine fb_iload_n dd_Mo_arithmetic_16 rfl (fb_iconst dd_Mo_arithmetic_17 ?_)
    refine fb_icmp_ne (tgt := 25) dd_Mo_arithmetic_18 rfl q2 (by decide) (fun hc => ?_) (fun hc => ?_)
    · replace h := h.1 hc
      refine fb_iload_n dd_Mo_arithmetic_25 rfl (fb_istore dd_Mo_arithmetic_26 rfl rfl rfl (fb_iload_n dd_Mo_arithmetic_28 rfl (fb_iconst dd_Mo_arithmetic_29 ?_)))
      refine fb_icmp_ne (tgt := 39) dd_Mo_arithmetic_30 rfl q2 (by decide) (fun hc => ?_) (fun hc => ?_)
      · replace h := h.1 hc
        refine fb_iload_n dd_Mo_arithmetic_39 rfl (fb_iconst dd_Mo_arithmetic_40 ?_)
        refine fb_icmp_ne (tgt := 50) dd_Mo_arithmetic_41 rfl q2 (by decide) (fun hc => ?_) (fun hc => ?_)
        · replace h := h.1 hc
          refine fb_iconst dd_Mo_arithmetic_50 (fb_istore dd_Mo_arithmetic_51 rfl rfl rfl ?_)
          exact fb_drop (fb_sub_k (fb_sub_k (fb_sub_k (fb_sub_d (fb_sub_k (fb_sub_k (fb_sub_k (fb_sub_k (fb_sub_k fb_sub_0))))))))) h
        · replace h := h.2 hc
          refine fb_aload_n dd_Mo_arithmetic_44 rfl (by decide) (fb_bipush dd_Mo_arithmetic_45 (by decide) ?_)
          refine fb_callVv (z := fb_Mo_plain) (k := 5) (vs := [.inl 13]) (st := []) dd_Mo_arithmetic_47 vw_Mo_132 (by decide) rfl rfl rfl (np := 1) (by decide +kernel) rfl rfl rfl rfl rfl (fb_mono h (fun r3 s4 h => ?_))
          refine fb_iconst dd_Mo_arithmetic_50 (fb_istore dd_Mo_arithmetic_51 rfl rfl rfl ?_)
          exact fb_drop (fb_sub_k (fb_sub_k (fb_sub_k (fb_sub_d (fb_sub_k (fb_sub_k (fb_sub_k (fb_sub_k (fb_sub_k fb_sub_0))))))))) h
      · replace h := h.2 hc
        refine fb_aload_n dd_Mo_arithmetic_33 rfl (by decide) (fb_bipush dd_Mo_arithmetic_34 (by decide) ?_)
        refine fb_callVv (z := fb_Mo_plain) (k := 5) (vs := [.inl 12]) (st := []) dd_Mo_arithmetic_36 vw_Mo_132 (by decide) rfl rfl rfl (np := 1) (by decide +kernel) rfl rfl rfl rfl rfl (fb_mono h (fun r5 s6 h => ?_))
        refine fb_iload_n dd_Mo_arithmetic_39 rfl (fb_iconst dd_Mo_arithmetic_40 ?_)
        refine fb_icmp_ne (tgt := 50) dd_Mo_arithmetic_41 rfl q2 (by decide) (fun hc => ?_) (fun hc => ?_)
        · replace h := h.1 hc
          refine fb_iconst dd_Mo_arithmetic_50 (fb_istore dd_Mo_arithmetic_51 rfl rfl rfl ?_)
          exact fb_drop (fb_sub_k (fb_sub_k (fb_sub_k (fb_sub_d (fb_sub_k (fb_sub_k (fb_sub_k (fb_sub_k (fb_sub_k fb_sub_0))))))))) h
        · replace h := h.2 hc
          refine fb_aload_n dd_Mo_arithmetic_44 rfl (by decide) (fb_bipush dd_Mo_arithmetic_45 (by decide) ?_)
          refine fb_callVv (z := fb_Mo_plain) (k := 5) (vs := [.inl 13]) (st := []) dd_Mo_arithmetic_47 vw_Mo_132 (by decide) rfl rfl rfl (np := 1) (by decide +kernel) rfl rfl rfl rfl rfl (fb_mono h (fun r7 s8 h => ?_))
          refine fb_iconst dd_Mo_arithmetic_50 (fb_istore dd_Mo_arithmetic_51 rfl rfl rfl ?_)
          exact fb_drop (fb_sub_k (fb_sub_k (fb_sub_k (fb_sub_d (fb_sub_k (fb_sub_k (fb_sub_k (fb_sub_k (fb_sub_k fb_sub_0))))))))) h
    · replace h := h.2 hc
      refine fb_iconst dd_Mo_arithmetic_21 (fb_goto (tgt := 26) dd_Mo_arithmetic_22 rfl (fb_istore dd_Mo_arithmetic_26 rfl rfl rfl (fb_iload_n dd_Mo_arithmetic_28 rfl (fb_iconst dd_Mo_arithmetic_29 ?_))))
      refine fb_icmp_ne (tgt := 39) dd_Mo_arithmetic_30 rfl q2 (by decide) (fun hc => ?_) (fun hc => ?_)
      · replace h := h.1 hc
        refine fb_iload_n dd_Mo_arithmetic_39 rfl (fb_iconst dd_Mo_arithmetic_40 ?_)
        refine fb_icmp_ne (tgt := 50) dd_Mo_arithmetic_41 rfl q2 (by decide) (fun hc => ?_) (fun hc => ?_)
        · replace h := h.1 hc
          refine fb_iconst dd_Mo_arithmetic_50 (fb_istore dd_Mo_arithmetic_51 rfl rfl rfl ?_)
          exact fb_drop (fb_sub_k (fb_sub_k (fb_sub_k (fb_sub_d (fb_sub_k (fb_sub_k (fb_sub_k (fb_sub_k (fb_sub_k fb_sub_0))))))))) h
        · replace h := h.2 hc
          refine fb_aload_n dd_Mo_arithmetic_44 rfl (by decide) (fb_bipush dd_Mo_arithmetic_45 (by decide) ?_)
          refine fb_callVv (z := fb_Mo_plain) (k := 5) (vs := [.inl 13]) (st := []) dd_Mo_arithmetic_47 vw_Mo_132 (by decide) rfl rfl rfl (np := 1) (by decide +kernel) rfl rfl rfl rfl rfl (fb_mono h (fun r9 s10 h => ?_))
          refine fb_iconst dd_Mo_arithmetic_50 (fb_istore dd_Mo_arithmetic_51 rfl rfl rfl ?_)
          exact fb_drop (fb_sub_k (fb_sub_k (fb_sub_k (fb_sub_d (fb_sub_k (fb_sub_k (fb_sub_k (fb_sub_k (fb_sub_k fb_sub_0))))))))) h
      · replace h := h.2 hc
        refine fb_aload_n dd_Mo_arithmetic_33 rfl (by decide) (fb_bipush dd_Mo_arithmetic_34 (by decide) ?_)
        refine fb_callVv (z := fb_Mo_plain) (k := 5) (vs := [.inl 12]) (st := []) dd_Mo_arithmetic_36 vw_Mo_132 (by decide) rfl rfl rfl (np := 1) (by decide +kernel) rfl rfl rfl rfl rfl (fb_mono h (fun r11 s12 h => ?_))
        refine fb_iload_n dd_Mo_arithmetic_39 rfl (fb_iconst dd_Mo_arithmetic_40 ?_)
        refine fb_icmp_ne (tgt := 50) dd_Mo_arithmetic_41 rfl q2 (by decide) (fun hc => ?_) (fun hc => ?_)
        · replace h := h.1 hc
          refine fb_iconst dd_Mo_arithmetic_50 (fb_istore dd_Mo_arithmetic_51 rfl rfl rfl ?_)
          exact fb_drop (fb_sub_k (fb_sub_k (fb_sub_k (fb_sub_d (fb_sub_k (fb_sub_k (fb_sub_k (fb_sub_k (fb_sub_k fb_sub_0))))))))) h
        · replace h := h.2 hc
          refine fb_aload_n dd_Mo_arithmetic_44 rfl (by decide) (fb_bipush dd_Mo_arithmetic_45 (by decide) ?_)
          refine fb_callVv (z := fb_Mo_plain) (k := 5) (vs := [.inl 13]) (st := []) dd_Mo_arithmetic_47 vw_Mo_132 (by decide) rfl rfl rfl (np := 1) (by decide +kernel) rfl rfl rfl rfl rfl (fb_mono h (fun r13 s14 h => ?_))
          refine fb_iconst dd_Mo_arithmetic_50 (fb_istore dd_Mo_arithmetic_51 rfl rfl rfl ?_)
          exact fb_drop (fb_sub_k (fb_sub_k (fb_sub_k (fb_sub_d (fb_sub_k (fb_sub_k (fb_sub_k (fb_sub_k (fb_sub_k fb_sub_0))))))))) h
  · replace h := h.2 hc
    refine fb_iconst dd_Mo_arithmetic_12 (fb_goto (tgt := 26) dd_Mo_arithmetic_13 rfl (fb_istore dd_Mo_arithmetic_26 rfl rfl rfl (fb_iload_n dd_Mo_arithmetic_28 rfl (fb_iconst dd_Mo_arithmetic_29 ?_))))
    refine fb_icmp_ne (tgt := 39) dd_Mo_arithmetic_30 rfl q2 (by decide) (fun hc => ?_) (fun hc => ?_)
    · replace h := h.1 hc
      refine fb_iload_n dd_Mo_arithmetic_39 rfl (fb_iconst dd_Mo_arithmetic_40 ?_)
      refine fb_icmp_ne (tgt := 50) dd_Mo_arithmetic_41 rfl q2 (by decide) (fun hc => ?_) (fun hc => ?_)
      · replace h := h.1 hc
        refine fb_iconst dd_Mo_arithmetic_50 (fb_istore dd_Mo_arithmetic_51 rfl rfl rfl ?_)
        exact fb_drop (fb_sub_k (fb_sub_k (fb_sub_k (fb_sub_d (fb_sub_k (fb_sub_k (fb_sub_k (fb_sub_k (fb_sub_k fb_sub_0))))))))) h
      · replace h := h.2 hc
        refine fb_aload_n dd_Mo_arithmetic_44 rfl (by decide) (fb_bipush dd_Mo_arithmetic_45 (by decide) ?_)
        refine fb_callVv (z := fb_Mo_plain) (k := 5) (vs := [.inl 13]) (st := []) dd_Mo_arithmetic_47 vw_Mo_132 (by decide) rfl rfl rfl (np := 1) (by decide +kernel) rfl rfl rfl rfl rfl (fb_mono h (fun r15 s16 h => ?_))
        refine fb_iconst dd_Mo_arithmetic_50 (fb_istore dd_Mo_arithmetic_51 rfl rfl rfl ?_)
        exact fb_drop (fb_sub_k (fb_sub_k (fb_sub_k (fb_sub_d (fb_sub_k (fb_sub_k (fb_sub_k (fb_sub_k (fb_sub_k fb_sub_0))))))))) h
    · replace h := h.2 hc
      refine fb_aload_n dd_Mo_arithmetic_33 rfl (by decide) (fb_bipush dd_Mo_arithmetic_34 (by decide) ?_)
      refine fb_callVv (z := fb_Mo_plain) (k := 5) (vs := [.inl 12]) (st := []) dd_Mo_arithmetic_36 vw_Mo_132 (by decide) rfl rfl rfl (np := 1) (by decide +kernel) rfl rfl rfl rfl rfl (fb_mono h (fun r17 s18 h => ?_))
      refine fb_iload_n dd_Mo_arithmetic_39 rfl (fb_iconst dd_Mo_arithmetic_40 ?_)
      refine fb_icmp_ne (tgt := 50) dd_Mo_arithmetic_41 rfl q2 (by decide) (fun hc => ?_) (fun hc => ?_)
      · replace h := h.1 hc
        refine fb_iconst dd_Mo_arithmetic_50 (fb_istore dd_Mo_arithmetic_51 rfl rfl rfl ?_)
        exact fb_drop (fb_sub_k (fb_sub_k (fb_sub_k (fb_sub_d (fb_sub_k (fb_sub_k (fb_sub_k (fb_sub_k (fb_sub_k fb_sub_0))))))))) h
      · replace h := h.2 hc
        refine fb_aload_n dd_Mo_arithmetic_44 rfl (by decide) (fb_bipush dd_Mo_arithmetic_45 (by decide) ?_)
        refine fb_callVv (z := fb_Mo_plain) (k := 5) (vs := [.inl 13]) (st := []) dd_Mo_arithmetic_47 vw_Mo_132 (by decide) rfl rfl rfl (np := 1) (by decide +kernel) rfl rfl rfl rfl rfl (fb_mono h (fun r19 s20 h => ?_))
        refine fb_iconst dd_Mo_arithmetic_50 (fb_istore dd_Mo_arithmetic_51 rfl rfl rfl ?_)
        exact fb_drop (fb_sub_k (fb_sub_k (fb_sub_k (fb_sub_d (fb_sub_k (fb_sub_k (fb_sub_k (fb_sub_k (fb_sub_k fb_sub_0))))))))) h
theorem Mo_arithmetic_b53 {E : fb_E} {σ : fb_S} {Q : Int → fb_S → Prop} (v1 v2 v4 v5 : Int) (h : (0 ≤ v2 ∧ v2 < 144) ∧ ((0 ≤ ((6 * v1) + (σ.2 44 v2)) ∧ ((6 * v1) + (σ.2 44 v2)) < 36) ∧ ((-2147483648 ≤ v5 ∧ v5 < 2147483648) ∧ ((-2147483648 ≤ (σ.2 42 ((6 * v1) + (σ.2 44 v2))) ∧ (σ.2 42 ((6 * v1) + (σ.2 44 v2))) < 2147483648) ∧ (((σ.2 42 ((6 * v1) + (σ.2 44 v2))) ≤ v5 → Q 0 σ) ∧ (¬ (σ.2 42 ((6 * v1) + (σ.2 44 v2))) ≤ v5 → fb_V E fb_Mo_part 0 [.inr 5, .inl v1, .inl (σ.2 45 v2), .inl v5] [] σ (fun r5 s6 => fb_V E fb_Mo_part 0 [.inr 5, .inl v1, .inl (s6.2 46 v2), .inl v5] [] s6 (fun r7 s8 => fb_V E fb_Mo_part 0 [.inr 5, .inl v1, .inl (s8.2 44 v2), .inl v5] [] s8 (fun r9 s10 => fb_V E fb_Mo_load 0 [.inr 5, .inl r5] [] s10 (fun _ s12 => fb_V E fb_Mo_with 0 [.inr 5, .inl v4, .inl r7] [] s12 (fun _ s14 => fb_V E fb_Mo_with 0 [.inr 5, .inl 1, .inl r9] [] s14 (fun _ s16 => fb_V E fb_Mo_arithmetic 53 [.inr 5, .inl v1, .inl v2, .inr 999, .inl v4, .inl (v5 + 1), .inr 999, .inr 999, .inr 999] [] s16 Q)))))))))))) : fb_V E fb_Mo_arithmetic 53 [.inr 5, .inl v1, .inl v2, .inr 999, .inl v4, .inl v5, .inr 999, .inr 999, .inr 999] [] σ Q := by
  refine fb_iload dd_Mo_arithmetic_53 rfl (fb_aload_n dd_Mo_arithmetic_55 rfl (by decide) (fb_getR 5 4 dd_Mo_arithmetic_56 rfl rfl rfl (by decide) lk_Mo_16 (fb_bipush dd_Mo_arithmetic_59 (by decide) (fb_iload_n dd_Mo_arithmetic_61 rfl (fb_imul dd_Mo_arithmetic_62 (fb_aload_n dd_Mo_arithmetic_63 rfl (by decide) (fb_getR 5 6 dd_Mo_arithmetic_64 rfl rfl rfl (by decide) lk_Mo_22 ?_)))))))
  refine fb_iload_n dd_Mo_arithmetic_67 rfl ?_
  obtain ⟨q1, h⟩ := h
  refine fb_ild (x := σ.2 44 v2) dd_Mo_arithmetic_68 rfl q1 rfl (fb_iadd dd_Mo_arithmetic_69 ?_)
  obtain ⟨q2, h⟩ := h
  refine fb_ild (x := σ.2 42 ((6 * v1) + (σ.2 44 v2))) dd_Mo_arithmetic_70 rfl q2 rfl ?_
  obtain ⟨q3, h⟩ := h
  obtain ⟨q4, h⟩ := h
  refine fb_icmp_ge (tgt := 146) dd_Mo_arithmetic_71 rfl q3 q4 (fun hc => ?_) (fun hc => ?_)
  · replace h := h.1 hc
    exact fb_vret dd_Mo_arithmetic_146 rfl h
  · replace h := h.2 hc
    refine fb_aload_n dd_Mo_arithmetic_74 rfl (by decide) (fb_iload_n dd_Mo_arithmetic_75 rfl (fb_aload_n dd_Mo_arithmetic_76 rfl (by decide) (fb_getR 5 7 dd_Mo_arithmetic_77 rfl rfl rfl (by decide) lk_Mo_25 (fb_iload_n dd_Mo_arithmetic_80 rfl (fb_ild (x := σ.2 45 v2) dd_Mo_arithmetic_81 rfl q1 rfl (fb_iload dd_Mo_arithmetic_82 rfl ?_))))))
    refine fb_callVi (z := fb_Mo_part) (k := 5) (vs := [.inl v1, .inl (σ.2 45 v2), .inl v5]) (st := []) dd_Mo_arithmetic_84 vw_Mo_135 (by decide) ⟨_, rfl⟩ rfl rfl (np := 3) (by decide +kernel) rfl rfl rfl rfl rfl (fb_mono h (fun r5 s6 h => ?_))
    refine fb_istore dd_Mo_arithmetic_87 rfl rfl rfl (fb_aload_n dd_Mo_arithmetic_89 rfl (by decide) (fb_iload_n dd_Mo_arithmetic_90 rfl (fb_aload_n dd_Mo_arithmetic_91 rfl (by decide) (fb_getR 5 8 dd_Mo_arithmetic_92 rfl rfl rfl (by decide) lk_Mo_28 (fb_iload_n dd_Mo_arithmetic_95 rfl (fb_ild (x := s6.2 46 v2) dd_Mo_arithmetic_96 rfl q1 rfl (fb_iload dd_Mo_arithmetic_97 rfl ?_)))))))
    refine fb_callVi (z := fb_Mo_part) (k := 5) (vs := [.inl v1, .inl (s6.2 46 v2), .inl v5]) (st := []) dd_Mo_arithmetic_99 vw_Mo_135 (by decide) ⟨_, rfl⟩ rfl rfl (np := 3) (by decide +kernel) rfl rfl rfl rfl rfl (fb_mono h (fun r7 s8 h => ?_))
    refine fb_istore dd_Mo_arithmetic_102 rfl rfl rfl (fb_aload_n dd_Mo_arithmetic_104 rfl (by decide) (fb_iload_n dd_Mo_arithmetic_105 rfl (fb_aload_n dd_Mo_arithmetic_106 rfl (by decide) (fb_getR 5 6 dd_Mo_arithmetic_107 rfl rfl rfl (by decide) lk_Mo_22 (fb_iload_n dd_Mo_arithmetic_110 rfl (fb_ild (x := s8.2 44 v2) dd_Mo_arithmetic_111 rfl q1 rfl (fb_iload dd_Mo_arithmetic_112 rfl ?_)))))))
    refine fb_callVi (z := fb_Mo_part) (k := 5) (vs := [.inl v1, .inl (s8.2 44 v2), .inl v5]) (st := []) dd_Mo_arithmetic_114 vw_Mo_135 (by decide) ⟨_, rfl⟩ rfl rfl (np := 3) (by decide +kernel) rfl rfl rfl rfl rfl (fb_mono h (fun r9 s10 h => ?_))
    refine fb_istore dd_Mo_arithmetic_117 rfl rfl rfl (fb_aload_n dd_Mo_arithmetic_119 rfl (by decide) (fb_iload dd_Mo_arithmetic_120 rfl ?_))
    refine fb_callVv (z := fb_Mo_load) (k := 5) (vs := [.inl r5]) (st := []) dd_Mo_arithmetic_122 vw_Mo_126 (by decide) rfl rfl rfl (np := 1) (by decide +kernel) rfl rfl rfl rfl rfl (fb_mono h (fun r11 s12 h => ?_))
    refine fb_aload_n dd_Mo_arithmetic_125 rfl (by decide) (fb_iload dd_Mo_arithmetic_126 rfl (fb_iload dd_Mo_arithmetic_128 rfl ?_))
    refine fb_callVv (z := fb_Mo_with) (k := 5) (vs := [.inl v4, .inl r7]) (st := []) dd_Mo_arithmetic_130 vw_Mo_122 (by decide) rfl rfl rfl (np := 2) (by decide +kernel) rfl rfl rfl rfl rfl (fb_mono h (fun r13 s14 h => ?_))
    refine fb_aload_n dd_Mo_arithmetic_133 rfl (by decide) (fb_iconst dd_Mo_arithmetic_134 (fb_iload dd_Mo_arithmetic_135 rfl ?_))
    refine fb_callVv (z := fb_Mo_with) (k := 5) (vs := [.inl 1, .inl r9]) (st := []) dd_Mo_arithmetic_137 vw_Mo_122 (by decide) rfl rfl rfl (np := 2) (by decide +kernel) rfl rfl rfl rfl rfl (fb_mono h (fun r15 s16 h => ?_))
    refine fb_iinc dd_Mo_arithmetic_140 rfl rfl rfl (fb_goto (tgt := 53) dd_Mo_arithmetic_143 rfl ?_)
    exact fb_drop (fb_sub_k (fb_sub_k (fb_sub_k (fb_sub_k (fb_sub_k (fb_sub_k (fb_sub_d (fb_sub_d (fb_sub_d fb_sub_0))))))))) h

theorem Mo_call_b0 {E : fb_E} {σ : fb_S} {Q : Int → fb_S → Prop} (v1 v2 : Int) (h : (0 ≤ v2 ∧ v2 < 144) ∧ ((0 ≤ (σ.2 44 v2) ∧ (σ.2 44 v2) < 6) ∧ ((-2147483648 ≤ (σ.2 40 (σ.2 44 v2)) ∧ (σ.2 40 (σ.2 44 v2)) < 2147483648) ∧ (((σ.2 40 (σ.2 44 v2)) ≤ 0 → fb_V E fb_Mo_call 47 [.inr 5, .inl v1, .inl v2, .inl (σ.2 44 v2), .inl 0, .inl 0, .inr 999, .inr 999] [] σ Q) ∧ (¬ (σ.2 40 (σ.2 44 v2)) ≤ 0 → (0 ≤ (6 * (σ.2 44 v2)) ∧ (6 * (σ.2 44 v2)) < 36) ∧ ((-2147483648 ≤ (σ.2 42 (6 * (σ.2 44 v2))) ∧ (σ.2 42 (6 * (σ.2 44 v2))) < 2147483648) ∧ ((3 ≤ (σ.2 42 (6 * (σ.2 44 v2))) → fb_V E fb_Mo_call 47 [.inr 5, .inl v1, .inl v2, .inl (σ.2 44 v2), .inl 0, .inl 0, .inr 999, .inr 999] [] σ Q) ∧ (¬ 3 ≤ (σ.2 42 (6 * (σ.2 44 v2))) → fb_V E fb_Mo_call 47 [.inr 5, .inl v1, .inl v2, .inl (σ.2 44 v2), .inl (σ.2 42 (6 * (σ.2 44 v2))), .inl 0, .inr 999, .inr 999] [] σ Q)))))))) : fb_V E fb_Mo_call 0 [.inr 5, .inl v1, .inl v2, .inr 999, .inr 999, .inr 999, .inr 999, .inr 999] [] σ Q := by
  refine fb_aload_n dd_Mo_call_0 rfl (by decide) (fb_getR 5 6 dd_Mo_call_1 rfl rfl rfl (by decide) lk_Mo_22 (fb_iload_n dd_Mo_call_4 rfl ?_))
  obtain ⟨q1, h⟩ := h
  refine fb_ild (x := σ.2 44 v2) dd_Mo_call_5 rfl q1 rfl (fb_istore_n dd_Mo_call_6 rfl rfl rfl (fb_aload_n dd_Mo_call_7 rfl (by decide) (fb_getR 5 2 dd_Mo_call_8 rfl rfl rfl (by decide) lk_Mo_7 (fb_iload_n dd_Mo_call_11 rfl ?_))))
  obtain ⟨q2, h⟩ := h
  refine fb_ild (x := σ.2 40 (σ.2 44 v2)) dd_Mo_call_12 rfl q2 rfl ?_
  obtain ⟨q3, h⟩ := h
  refine fb_if_le (tgt := 41) dd_Mo_call_13 rfl q3 (fun hc => ?_) (fun hc => ?_)
  · replace h := h.1 hc
    refine fb_iconst dd_Mo_call_41 (fb_istore dd_Mo_call_42 rfl rfl rfl (fb_iconst dd_Mo_call_44 (fb_istore dd_Mo_call_45 rfl rfl rfl ?_)))
    exact h
  · replace h := h.2 hc
    refine fb_aload_n dd_Mo_call_16 rfl (by decide) (fb_getR 5 4 dd_Mo_call_17 rfl rfl rfl (by decide) lk_Mo_16 (fb_bipush dd_Mo_call_20 (by decide) (fb_iload_n dd_Mo_call_22 rfl (fb_imul dd_Mo_call_23 ?_))))
    obtain ⟨q4, h⟩ := h
    refine fb_ild (x := σ.2 42 (6 * (σ.2 44 v2))) dd_Mo_call_24 rfl q4 rfl (fb_iconst dd_Mo_call_25 ?_)
    obtain ⟨q5, h⟩ := h
    refine fb_icmp_ge (tgt := 41) dd_Mo_call_26 rfl q5 (by decide) (fun hc => ?_) (fun hc => ?_)
    · replace h := h.1 hc
      refine fb_iconst dd_Mo_call_41 (fb_istore dd_Mo_call_42 rfl rfl rfl (fb_iconst dd_Mo_call_44 (fb_istore dd_Mo_call_45 rfl rfl rfl ?_)))
      exact h
    · replace h := h.2 hc
      refine fb_aload_n dd_Mo_call_29 rfl (by decide) (fb_getR 5 4 dd_Mo_call_30 rfl rfl rfl (by decide) lk_Mo_16 (fb_bipush dd_Mo_call_33 (by decide) (fb_iload_n dd_Mo_call_35 rfl (fb_imul dd_Mo_call_36 (fb_ild (x := σ.2 42 (6 * (σ.2 44 v2))) dd_Mo_call_37 rfl q4 rfl (fb_goto (tgt := 42) dd_Mo_call_38 rfl (fb_istore dd_Mo_call_42 rfl rfl rfl ?_)))))))
      refine fb_iconst dd_Mo_call_44 (fb_istore dd_Mo_call_45 rfl rfl rfl ?_)
      exact h
theorem Mo_call_b47 {E : fb_E} {σ : fb_S} {Q : Int → fb_S → Prop} (v1 v2 v3 v4 v5 : Int) (h : (-2147483648 ≤ v5 ∧ v5 < 2147483648) ∧ ((-2147483648 ≤ v4 ∧ v4 < 2147483648) ∧ ((v4 ≤ v5 → (0 ≤ (24 * v3) ∧ (24 * v3) < 144) ∧ (fb_V E fb_Mo_to 0 [.inr 5, .inl 19, .inl (σ.2 50 (24 * v3))] [] σ (fun _ s5 => (0 ≤ v2 ∧ v2 < 144) ∧ (fb_V E fb_Mo_place 0 [.inr 5, .inl v1, .inl (s5.2 46 v2), .inr 999, .inr 999] [] (fb_sg (fb_sm s5 53 v2 (s5.1 181)) 181 0) (fun r7 s8 => fb_V E fb_Mo_call 139 [.inr 5, .inl v1, .inl v2, .inr 999, .inr 999, .inl r7, .inl 0, .inr 999] [] s8 Q))))) ∧ (¬ v4 ≤ v5 → (0 ≤ v2 ∧ v2 < 144) ∧ (fb_V E fb_Mo_part 0 [.inr 5, .inl v1, .inl (σ.2 45 v2), .inl v5] [] σ (fun r10 s11 => fb_V E fb_Mo_part 0 [.inr 5, .inl v3, .inl 0, .inl v5] [] s11 (fun r12 s13 => fb_V E fb_Mo_move 0 [.inr 5, .inl r10, .inl r12] [] s13 (fun _ s15 => fb_V E fb_Mo_call 47 [.inr 5, .inl v1, .inl v2, .inl v3, .inl v4, .inl (v5 + 1), .inr 999, .inr 999] [] s15 Q)))))))) : fb_V E fb_Mo_call 47 [.inr 5, .inl v1, .inl v2, .inl v3, .inl v4, .inl v5, .inr 999, .inr 999] [] σ Q := by
  refine fb_iload dd_Mo_call_47 rfl (fb_iload dd_Mo_call_49 rfl ?_)
  obtain ⟨q1, h⟩ := h
  obtain ⟨q2, h⟩ := h
  refine fb_icmp_ge (tgt := 93) dd_Mo_call_51 rfl q1 q2 (fun hc => ?_) (fun hc => ?_)
  · replace h := h.1 hc
    refine fb_aload_n dd_Mo_call_93 rfl (by decide) (fb_bipush dd_Mo_call_94 (by decide) (fb_aload_n dd_Mo_call_96 rfl (by decide) (fb_getR 5 16 dd_Mo_call_97 rfl rfl rfl (by decide) lk_Mo_41 (fb_bipush dd_Mo_call_100 (by decide) (fb_iload_n dd_Mo_call_102 rfl (fb_imul dd_Mo_call_103 ?_))))))
    obtain ⟨q3, h⟩ := h
    refine fb_ild (x := σ.2 50 (24 * v3)) dd_Mo_call_104 rfl q3 rfl ?_
    refine fb_callVv (z := fb_Mo_to) (k := 5) (vs := [.inl 19, .inl (σ.2 50 (24 * v3))]) (st := []) dd_Mo_call_105 vw_Mo_129 (by decide) rfl rfl rfl (np := 2) (by decide +kernel) rfl rfl rfl rfl rfl (fb_mono h (fun r4 s5 h => ?_))
    refine fb_aload_n dd_Mo_call_108 rfl (by decide) (fb_getR 5 19 dd_Mo_call_109 rfl rfl rfl (by decide) lk_Mo_50 (fb_iload_n dd_Mo_call_112 rfl (fb_aload_n dd_Mo_call_113 rfl (by decide) (fb_getI (x := s5.1 181) 5 21 dd_Mo_call_114 rfl rfl rfl (by decide) lk_Mo_116 rfl ?_))))
    obtain ⟨q6, h⟩ := h
    refine fb_ist dd_Mo_call_117 rfl q6 (fb_aload_n dd_Mo_call_118 rfl (by decide) (fb_iconst dd_Mo_call_119 (fb_putI 5 21 dd_Mo_call_120 rfl rfl rfl (by decide) rfl (by decide +kernel) lk_Mo_116 (fb_aload_n dd_Mo_call_123 rfl (by decide) (fb_iload_n dd_Mo_call_124 rfl (fb_aload_n dd_Mo_call_125 rfl (by decide) (fb_getR 5 8 dd_Mo_call_126 rfl rfl rfl (by decide) lk_Mo_28 ?_)))))))
    refine fb_iload_n dd_Mo_call_129 rfl (fb_ild (x := s5.2 46 v2) dd_Mo_call_130 rfl q6 rfl ?_)
    refine fb_callVi (z := fb_Mo_place) (k := 5) (vs := [.inl v1, .inl (s5.2 46 v2)]) (st := []) dd_Mo_call_131 vw_Mo_105 (by decide) ⟨_, rfl⟩ rfl rfl (np := 2) (by decide +kernel) rfl rfl rfl rfl rfl (fb_mono h (fun r7 s8 h => ?_))
    refine fb_istore dd_Mo_call_134 rfl rfl rfl (fb_iconst dd_Mo_call_136 (fb_istore dd_Mo_call_137 rfl rfl rfl ?_))
    exact fb_drop (fb_sub_k (fb_sub_k (fb_sub_k (fb_sub_d (fb_sub_d (fb_sub_k (fb_sub_k (fb_sub_k fb_sub_0)))))))) h
  · replace h := h.2 hc
    refine fb_aload_n dd_Mo_call_54 rfl (by decide) (fb_iload_n dd_Mo_call_55 rfl (fb_aload_n dd_Mo_call_56 rfl (by decide) (fb_getR 5 7 dd_Mo_call_57 rfl rfl rfl (by decide) lk_Mo_25 (fb_iload_n dd_Mo_call_60 rfl ?_))))
    obtain ⟨q9, h⟩ := h
    refine fb_ild (x := σ.2 45 v2) dd_Mo_call_61 rfl q9 rfl (fb_iload dd_Mo_call_62 rfl ?_)
    refine fb_callVi (z := fb_Mo_part) (k := 5) (vs := [.inl v1, .inl (σ.2 45 v2), .inl v5]) (st := []) dd_Mo_call_64 vw_Mo_135 (by decide) ⟨_, rfl⟩ rfl rfl (np := 3) (by decide +kernel) rfl rfl rfl rfl rfl (fb_mono h (fun r10 s11 h => ?_))
    refine fb_istore dd_Mo_call_67 rfl rfl rfl (fb_aload_n dd_Mo_call_69 rfl (by decide) (fb_iload_n dd_Mo_call_70 rfl (fb_iconst dd_Mo_call_71 (fb_iload dd_Mo_call_72 rfl ?_))))
    refine fb_callVi (z := fb_Mo_part) (k := 5) (vs := [.inl v3, .inl 0, .inl v5]) (st := []) dd_Mo_call_74 vw_Mo_135 (by decide) ⟨_, rfl⟩ rfl rfl (np := 3) (by decide +kernel) rfl rfl rfl rfl rfl (fb_mono h (fun r12 s13 h => ?_))
    refine fb_istore dd_Mo_call_77 rfl rfl rfl (fb_aload_n dd_Mo_call_79 rfl (by decide) (fb_iload dd_Mo_call_80 rfl (fb_iload dd_Mo_call_82 rfl ?_)))
    refine fb_callVv (z := fb_Mo_move) (k := 5) (vs := [.inl r10, .inl r12]) (st := []) dd_Mo_call_84 vw_Mo_139 (by decide) rfl rfl rfl (np := 2) (by decide +kernel) rfl rfl rfl rfl rfl (fb_mono h (fun r14 s15 h => ?_))
    refine fb_iinc dd_Mo_call_87 rfl rfl rfl (fb_goto (tgt := 47) dd_Mo_call_90 rfl ?_)
    exact fb_drop (fb_sub_k (fb_sub_k (fb_sub_k (fb_sub_k (fb_sub_k (fb_sub_k (fb_sub_d (fb_sub_d fb_sub_0)))))))) h
theorem Mo_call_b139 {E : fb_E} {σ : fb_S} {Q : Int → fb_S → Prop} (v1 v2 v5 v6 : Int) (h : (0 ≤ v2 ∧ v2 < 144) ∧ ((0 ≤ ((6 * v1) + (σ.2 46 v2)) ∧ ((6 * v1) + (σ.2 46 v2)) < 36) ∧ ((-2147483648 ≤ v6 ∧ v6 < 2147483648) ∧ ((-2147483648 ≤ (σ.2 42 ((6 * v1) + (σ.2 46 v2))) ∧ (σ.2 42 ((6 * v1) + (σ.2 46 v2))) < 2147483648) ∧ (((σ.2 42 ((6 * v1) + (σ.2 46 v2))) ≤ v6 → Q 0 (fb_sm σ 54 v2 (σ.1 181))) ∧ (¬ (σ.2 42 ((6 * v1) + (σ.2 46 v2))) ≤ v6 → fb_V E fb_Mo_move 0 [.inr 5, .inl (126 + v6), .inl (v5 + v6)] [] σ (fun _ s6 => fb_V E fb_Mo_call 139 [.inr 5, .inl v1, .inl v2, .inr 999, .inr 999, .inl v5, .inl (v6 + 1), .inr 999] [] s6 Q))))))) : fb_V E fb_Mo_call 139 [.inr 5, .inl v1, .inl v2, .inr 999, .inr 999, .inl v5, .inl v6, .inr 999] [] σ Q := by
  refine fb_iload dd_Mo_call_139 rfl (fb_aload_n dd_Mo_call_141 rfl (by decide) (fb_getR 5 4 dd_Mo_call_142 rfl rfl rfl (by decide) lk_Mo_16 (fb_bipush dd_Mo_call_145 (by decide) (fb_iload_n dd_Mo_call_147 rfl (fb_imul dd_Mo_call_148 (fb_aload_n dd_Mo_call_149 rfl (by decide) (fb_getR 5 8 dd_Mo_call_150 rfl rfl rfl (by decide) lk_Mo_28 ?_)))))))
  refine fb_iload_n dd_Mo_call_153 rfl ?_
  obtain ⟨q1, h⟩ := h
  refine fb_ild (x := σ.2 46 v2) dd_Mo_call_154 rfl q1 rfl (fb_iadd dd_Mo_call_155 ?_)
  obtain ⟨q2, h⟩ := h
  refine fb_ild (x := σ.2 42 ((6 * v1) + (σ.2 46 v2))) dd_Mo_call_156 rfl q2 rfl ?_
  obtain ⟨q3, h⟩ := h
  obtain ⟨q4, h⟩ := h
  refine fb_icmp_ge (tgt := 180) dd_Mo_call_157 rfl q3 q4 (fun hc => ?_) (fun hc => ?_)
  · replace h := h.1 hc
    refine fb_aload_n dd_Mo_call_180 rfl (by decide) (fb_getR 5 20 dd_Mo_call_181 rfl rfl rfl (by decide) lk_Mo_53 (fb_iload_n dd_Mo_call_184 rfl (fb_aload_n dd_Mo_call_185 rfl (by decide) (fb_getI (x := σ.1 181) 5 21 dd_Mo_call_186 rfl rfl rfl (by decide) lk_Mo_116 rfl (fb_ist dd_Mo_call_189 rfl q1 ?_)))))
    exact fb_vret dd_Mo_call_190 rfl h
  · replace h := h.2 hc
    refine fb_aload_n dd_Mo_call_160 rfl (by decide) (fb_bipush dd_Mo_call_161 (by decide) (fb_iload dd_Mo_call_163 rfl (fb_iadd dd_Mo_call_165 (fb_iload dd_Mo_call_166 rfl (fb_iload dd_Mo_call_168 rfl (fb_iadd dd_Mo_call_170 ?_))))))
    refine fb_callVv (z := fb_Mo_move) (k := 5) (vs := [.inl (126 + v6), .inl (v5 + v6)]) (st := []) dd_Mo_call_171 vw_Mo_139 (by decide) rfl rfl rfl (np := 2) (by decide +kernel) rfl rfl rfl rfl rfl (fb_mono h (fun r5 s6 h => ?_))
    refine fb_iinc dd_Mo_call_174 rfl rfl rfl (fb_goto (tgt := 139) dd_Mo_call_177 rfl ?_)
    exact h

theorem Mo_tests_b0 {E : fb_E} {σ : fb_S} {Q : Int → fb_S → Prop} (v1 v2 : Int) (h : (0 ≤ v2 ∧ v2 < 144) ∧ (fb_V E fb_Mo_part 0 [.inr 5, .inl v1, .inl (σ.2 44 v2), .inl 0] [] σ (fun r2 s3 => (0 ≤ ((6 * v1) + (σ.2 44 v2)) ∧ ((6 * v1) + (σ.2 44 v2)) < 36) ∧ ((-2147483648 ≤ (s3.2 42 ((6 * v1) + (σ.2 44 v2))) ∧ (s3.2 42 ((6 * v1) + (σ.2 44 v2))) < 2147483648) ∧ ((¬ (s3.2 42 ((6 * v1) + (σ.2 44 v2))) = 2 → (-2147483648 ≤ (s3.2 43 v2) ∧ (s3.2 43 v2) < 2147483648) ∧ ((¬ (s3.2 43 v2) = 11 → fb_V E fb_Mo_load 0 [.inr 5, .inl r2] [] s3 (fun _ s8 => fb_V E fb_Mo_part 0 [.inr 5, .inl v1, .inl (s3.2 45 v2), .inl 0] [] s8 (fun r9 s10 => fb_V E fb_Mo_with 0 [.inr 5, .inl 10, .inl r9] [] s10 (fun _ s12 => (0 ≤ ((6 * v1) + (s3.2 45 v2)) ∧ ((6 * v1) + (s3.2 45 v2)) < 36) ∧ ((-2147483648 ≤ (s12.2 42 ((6 * v1) + (s3.2 45 v2))) ∧ (s12.2 42 ((6 * v1) + (s3.2 45 v2))) < 2147483648) ∧ ((¬ (s12.2 42 ((6 * v1) + (s3.2 45 v2))) = 2 → fb_V E fb_Mo_branch 0 [.inr 5, .inl v2, .inl 16, .inr 999, .inr 999] [] s12 (fun _ s16 => Q 0 s16)) ∧ ((s12.2 42 ((6 * v1) + (s3.2 45 v2))) = 2 → fb_V E fb_Mo_part 0 [.inr 5, .inl v1, .inl (σ.2 44 v2), .inl 1] [] s12 (fun r17 s18 => fb_V E fb_Mo_load 0 [.inr 5, .inl r17] [] s18 (fun _ s20 => fb_V E fb_Mo_part 0 [.inr 5, .inl v1, .inl (s3.2 45 v2), .inl 1] [] s20 (fun r21 s22 => fb_V E fb_Mo_with 0 [.inr 5, .inl 3, .inl r21] [] s22 (fun _ s24 => fb_V E fb_Mo_branch 0 [.inr 5, .inl v2, .inl 16, .inr 999, .inr 999] [] s24 (fun _ s26 => Q 0 s26)))))))))))) ∧ ((s3.2 43 v2) = 11 → fb_V E fb_Mo_with 0 [.inr 5, .inl 0, .inl r2] [] s3 (fun _ s28 => fb_V E fb_Mo_part 0 [.inr 5, .inl v1, .inl (σ.2 44 v2), .inl 1] [] s28 (fun r29 s30 => fb_V E fb_Mo_branch 0 [.inr 5, .inl v2, .inl 14, .inr 999, .inr 999] [] s30 (fun _ s32 => Q 0 s32)))))) ∧ ((s3.2 42 ((6 * v1) + (σ.2 44 v2))) = 2 → (-2147483648 ≤ (s3.2 43 v2) ∧ (s3.2 43 v2) < 2147483648) ∧ ((¬ (s3.2 43 v2) = 11 → fb_V E fb_Mo_load 0 [.inr 5, .inl r2] [] s3 (fun _ s35 => fb_V E fb_Mo_part 0 [.inr 5, .inl v1, .inl (s3.2 45 v2), .inl 0] [] s35 (fun r36 s37 => fb_V E fb_Mo_with 0 [.inr 5, .inl 10, .inl r36] [] s37 (fun _ s39 => fb_V E fb_Mo_part 0 [.inr 5, .inl v1, .inl (σ.2 44 v2), .inl 1] [] s39 (fun r40 s41 => fb_V E fb_Mo_load 0 [.inr 5, .inl r40] [] s41 (fun _ s43 => fb_V E fb_Mo_part 0 [.inr 5, .inl v1, .inl (s3.2 45 v2), .inl 1] [] s43 (fun r44 s45 => fb_V E fb_Mo_with 0 [.inr 5, .inl 3, .inl r44] [] s45 (fun _ s47 => fb_V E fb_Mo_branch 0 [.inr 5, .inl v2, .inl 16, .inr 999, .inr 999] [] s47 (fun _ s49 => Q 0 s49))))))))) ∧ ((s3.2 43 v2) = 11 → fb_V E fb_Mo_load 0 [.inr 5, .inl r2] [] s3 (fun _ s51 => fb_V E fb_Mo_part 0 [.inr 5, .inl v1, .inl (σ.2 44 v2), .inl 1] [] s51 (fun r52 s53 => fb_V E fb_Mo_with 0 [.inr 5, .inl 5, .inl r52] [] s53 (fun _ s55 => fb_V E fb_Mo_branch 0 [.inr 5, .inl v2, .inl 14, .inr 999, .inr 999] [] s55 (fun _ s57 => Q 0 s57)))))))))))) : fb_V E fb_Mo_tests 0 [.inr 5, .inl v1, .inl v2, .inr 999, .inr 999, .inr 999, .inr 999, .inr 999, .inr 999] [] σ Q := by
  refine fb_aload_n dd_Mo_tests_0 rfl (by decide) (fb_getR 5 6 dd_Mo_tests_1 rfl rfl rfl (by decide) lk_Mo_22 (fb_iload_n dd_Mo_tests_4 rfl ?_))
  obtain ⟨q1, h⟩ := h
  refine fb_ild (x := σ.2 44 v2) dd_Mo_tests_5 rfl q1 rfl (fb_istore_n dd_Mo_tests_6 rfl rfl rfl (fb_aload_n dd_Mo_tests_7 rfl (by decide) (fb_iload_n dd_Mo_tests_8 rfl (fb_iload_n dd_Mo_tests_9 rfl (fb_iconst dd_Mo_tests_10 ?_)))))
  refine fb_callVi (z := fb_Mo_part) (k := 5) (vs := [.inl v1, .inl (σ.2 44 v2), .inl 0]) (st := []) dd_Mo_tests_11 vw_Mo_135 (by decide) ⟨_, rfl⟩ rfl rfl (np := 3) (by decide +kernel) rfl rfl rfl rfl rfl (fb_mono h (fun r2 s3 h => ?_))
  refine fb_istore dd_Mo_tests_14 rfl rfl rfl (fb_aload_n dd_Mo_tests_16 rfl (by decide) (fb_getR 5 4 dd_Mo_tests_17 rfl rfl rfl (by decide) lk_Mo_16 (fb_bipush dd_Mo_tests_20 (by decide) (fb_iload_n dd_Mo_tests_22 rfl (fb_imul dd_Mo_tests_23 (fb_iload_n dd_Mo_tests_24 rfl (fb_iadd dd_Mo_tests_25 ?_)))))))
  obtain ⟨q4, h⟩ := h
  refine fb_ild (x := s3.2 42 ((6 * v1) + (σ.2 44 v2))) dd_Mo_tests_26 rfl q4 rfl (fb_iconst dd_Mo_tests_27 ?_)
  obtain ⟨q5, h⟩ := h
  refine fb_icmp_ne (tgt := 35) dd_Mo_tests_28 rfl q5 (by decide) (fun hc => ?_) (fun hc => ?_)
  · replace h := h.1 hc
    refine fb_iconst dd_Mo_tests_35 (fb_istore dd_Mo_tests_36 rfl rfl rfl (fb_aload_n dd_Mo_tests_38 rfl (by decide) (fb_getR 5 5 dd_Mo_tests_39 rfl rfl rfl (by decide) lk_Mo_19 (fb_iload_n dd_Mo_tests_42 rfl (fb_ild (x := s3.2 43 v2) dd_Mo_tests_43 rfl q1 rfl (fb_bipush dd_Mo_tests_44 (by decide) ?_))))))
    obtain ⟨q6, h⟩ := h
    refine fb_icmp_ne (tgt := 99) dd_Mo_tests_46 rfl q6 (by decide) (fun hc => ?_) (fun hc => ?_)
    · replace h := h.1 hc
      refine fb_aload_n dd_Mo_tests_99 rfl (by decide) (fb_getR 5 7 dd_Mo_tests_100 rfl rfl rfl (by decide) lk_Mo_25 (fb_iload_n dd_Mo_tests_103 rfl (fb_ild (x := s3.2 45 v2) dd_Mo_tests_104 rfl q1 rfl (fb_istore dd_Mo_tests_105 rfl rfl rfl (fb_aload_n dd_Mo_tests_107 rfl (by decide) (fb_iload dd_Mo_tests_108 rfl ?_))))))
      refine fb_callVv (z := fb_Mo_load) (k := 5) (vs := [.inl r2]) (st := []) dd_Mo_tests_110 vw_Mo_126 (by decide) rfl rfl rfl (np := 1) (by decide +kernel) rfl rfl rfl rfl rfl (fb_mono h (fun r7 s8 h => ?_))
      refine fb_aload_n dd_Mo_tests_113 rfl (by decide) (fb_iload_n dd_Mo_tests_114 rfl (fb_iload dd_Mo_tests_115 rfl (fb_iconst dd_Mo_tests_117 ?_)))
      refine fb_callVi (z := fb_Mo_part) (k := 5) (vs := [.inl v1, .inl (s3.2 45 v2), .inl 0]) (st := []) dd_Mo_tests_118 vw_Mo_135 (by decide) ⟨_, rfl⟩ rfl rfl (np := 3) (by decide +kernel) rfl rfl rfl rfl rfl (fb_mono h (fun r9 s10 h => ?_))
      refine fb_istore dd_Mo_tests_121 rfl rfl rfl (fb_aload_n dd_Mo_tests_123 rfl (by decide) (fb_bipush dd_Mo_tests_124 (by decide) (fb_iload dd_Mo_tests_126 rfl ?_)))
      refine fb_callVv (z := fb_Mo_with) (k := 5) (vs := [.inl 10, .inl r9]) (st := []) dd_Mo_tests_128 vw_Mo_122 (by decide) rfl rfl rfl (np := 2) (by decide +kernel) rfl rfl rfl rfl rfl (fb_mono h (fun r11 s12 h => ?_))
      refine fb_iload dd_Mo_tests_131 rfl ?_
      refine fb_if_ne (tgt := 152) dd_Mo_tests_133 rfl (by decide) (fun hz => absurd hz (by decide)) (fun _ => ?_)
      refine fb_aload_n dd_Mo_tests_136 rfl (by decide) (fb_getR 5 4 dd_Mo_tests_137 rfl rfl rfl (by decide) lk_Mo_16 (fb_bipush dd_Mo_tests_140 (by decide) (fb_iload_n dd_Mo_tests_142 rfl (fb_imul dd_Mo_tests_143 (fb_iload dd_Mo_tests_144 rfl (fb_iadd dd_Mo_tests_146 ?_))))))
      obtain ⟨q13, h⟩ := h
      refine fb_ild (x := s12.2 42 ((6 * v1) + (s3.2 45 v2))) dd_Mo_tests_147 rfl q13 rfl (fb_iconst dd_Mo_tests_148 ?_)
      obtain ⟨q14, h⟩ := h
      refine fb_icmp_ne (tgt := 184) dd_Mo_tests_149 rfl q14 (by decide) (fun hc => ?_) (fun hc => ?_)
      · replace h := h.1 hc
        refine fb_aload_n dd_Mo_tests_184 rfl (by decide) (fb_iload_n dd_Mo_tests_185 rfl (fb_bipush dd_Mo_tests_186 (by decide) ?_))
        refine fb_callVv (z := fb_Mo_branch) (k := 5) (vs := [.inl v2, .inl 16]) (st := []) dd_Mo_tests_188 vw_Mo_142 (by decide) rfl rfl rfl (np := 2) (by decide +kernel) rfl rfl rfl rfl rfl (fb_mono h (fun r15 s16 h => ?_))
        exact fb_vret dd_Mo_tests_191 rfl h
      · replace h := h.2 hc
        refine fb_aload_n dd_Mo_tests_152 rfl (by decide) (fb_iload_n dd_Mo_tests_153 rfl (fb_iload_n dd_Mo_tests_154 rfl (fb_iconst dd_Mo_tests_155 ?_)))
        refine fb_callVi (z := fb_Mo_part) (k := 5) (vs := [.inl v1, .inl (σ.2 44 v2), .inl 1]) (st := []) dd_Mo_tests_156 vw_Mo_135 (by decide) ⟨_, rfl⟩ rfl rfl (np := 3) (by decide +kernel) rfl rfl rfl rfl rfl (fb_mono h (fun r17 s18 h => ?_))
        refine fb_istore dd_Mo_tests_159 rfl rfl rfl (fb_aload_n dd_Mo_tests_161 rfl (by decide) (fb_iload dd_Mo_tests_162 rfl ?_))
        refine fb_callVv (z := fb_Mo_load) (k := 5) (vs := [.inl r17]) (st := []) dd_Mo_tests_164 vw_Mo_126 (by decide) rfl rfl rfl (np := 1) (by decide +kernel) rfl rfl rfl rfl rfl (fb_mono h (fun r19 s20 h => ?_))
        refine fb_aload_n dd_Mo_tests_167 rfl (by decide) (fb_iload_n dd_Mo_tests_168 rfl (fb_iload dd_Mo_tests_169 rfl (fb_iconst dd_Mo_tests_171 ?_)))
        refine fb_callVi (z := fb_Mo_part) (k := 5) (vs := [.inl v1, .inl (s3.2 45 v2), .inl 1]) (st := []) dd_Mo_tests_172 vw_Mo_135 (by decide) ⟨_, rfl⟩ rfl rfl (np := 3) (by decide +kernel) rfl rfl rfl rfl rfl (fb_mono h (fun r21 s22 h => ?_))
        refine fb_istore dd_Mo_tests_175 rfl rfl rfl (fb_aload_n dd_Mo_tests_177 rfl (by decide) (fb_iconst dd_Mo_tests_178 (fb_iload dd_Mo_tests_179 rfl ?_)))
        refine fb_callVv (z := fb_Mo_with) (k := 5) (vs := [.inl 3, .inl r21]) (st := []) dd_Mo_tests_181 vw_Mo_122 (by decide) rfl rfl rfl (np := 2) (by decide +kernel) rfl rfl rfl rfl rfl (fb_mono h (fun r23 s24 h => ?_))
        refine fb_aload_n dd_Mo_tests_184 rfl (by decide) (fb_iload_n dd_Mo_tests_185 rfl (fb_bipush dd_Mo_tests_186 (by decide) ?_))
        refine fb_callVv (z := fb_Mo_branch) (k := 5) (vs := [.inl v2, .inl 16]) (st := []) dd_Mo_tests_188 vw_Mo_142 (by decide) rfl rfl rfl (np := 2) (by decide +kernel) rfl rfl rfl rfl rfl (fb_mono h (fun r25 s26 h => ?_))
        exact fb_vret dd_Mo_tests_191 rfl h
    · replace h := h.2 hc
      refine fb_iload dd_Mo_tests_49 rfl ?_
      refine fb_if_eq (tgt := 63) dd_Mo_tests_51 rfl (by decide) (fun _ => ?_) (fun hz => absurd hz (by decide))
      refine fb_aload_n dd_Mo_tests_63 rfl (by decide) (fb_iconst dd_Mo_tests_64 (fb_iload dd_Mo_tests_65 rfl ?_))
      refine fb_callVv (z := fb_Mo_with) (k := 5) (vs := [.inl 0, .inl r2]) (st := []) dd_Mo_tests_67 vw_Mo_122 (by decide) rfl rfl rfl (np := 2) (by decide +kernel) rfl rfl rfl rfl rfl (fb_mono h (fun r27 s28 h => ?_))
      refine fb_aload_n dd_Mo_tests_70 rfl (by decide) (fb_iload_n dd_Mo_tests_71 rfl (fb_iload_n dd_Mo_tests_72 rfl (fb_iconst dd_Mo_tests_73 ?_)))
      refine fb_callVi (z := fb_Mo_part) (k := 5) (vs := [.inl v1, .inl (σ.2 44 v2), .inl 1]) (st := []) dd_Mo_tests_74 vw_Mo_135 (by decide) ⟨_, rfl⟩ rfl rfl (np := 3) (by decide +kernel) rfl rfl rfl rfl rfl (fb_mono h (fun r29 s30 h => ?_))
      refine fb_istore dd_Mo_tests_77 rfl rfl rfl (fb_iload dd_Mo_tests_79 rfl ?_)
      refine fb_if_eq (tgt := 91) dd_Mo_tests_81 rfl (by decide) (fun _ => ?_) (fun hz => absurd hz (by decide))
      refine fb_aload_n dd_Mo_tests_91 rfl (by decide) (fb_iload_n dd_Mo_tests_92 rfl (fb_bipush dd_Mo_tests_93 (by decide) ?_))
      refine fb_callVv (z := fb_Mo_branch) (k := 5) (vs := [.inl v2, .inl 14]) (st := []) dd_Mo_tests_95 vw_Mo_142 (by decide) rfl rfl rfl (np := 2) (by decide +kernel) rfl rfl rfl rfl rfl (fb_mono h (fun r31 s32 h => ?_))
      exact fb_vret dd_Mo_tests_98 rfl h
  · replace h := h.2 hc
    refine fb_iconst dd_Mo_tests_31 (fb_goto (tgt := 36) dd_Mo_tests_32 rfl (fb_istore dd_Mo_tests_36 rfl rfl rfl (fb_aload_n dd_Mo_tests_38 rfl (by decide) (fb_getR 5 5 dd_Mo_tests_39 rfl rfl rfl (by decide) lk_Mo_19 (fb_iload_n dd_Mo_tests_42 rfl (fb_ild (x := s3.2 43 v2) dd_Mo_tests_43 rfl q1 rfl (fb_bipush dd_Mo_tests_44 (by decide) ?_)))))))
    obtain ⟨q33, h⟩ := h
    refine fb_icmp_ne (tgt := 99) dd_Mo_tests_46 rfl q33 (by decide) (fun hc => ?_) (fun hc => ?_)
    · replace h := h.1 hc
      refine fb_aload_n dd_Mo_tests_99 rfl (by decide) (fb_getR 5 7 dd_Mo_tests_100 rfl rfl rfl (by decide) lk_Mo_25 (fb_iload_n dd_Mo_tests_103 rfl (fb_ild (x := s3.2 45 v2) dd_Mo_tests_104 rfl q1 rfl (fb_istore dd_Mo_tests_105 rfl rfl rfl (fb_aload_n dd_Mo_tests_107 rfl (by decide) (fb_iload dd_Mo_tests_108 rfl ?_))))))
      refine fb_callVv (z := fb_Mo_load) (k := 5) (vs := [.inl r2]) (st := []) dd_Mo_tests_110 vw_Mo_126 (by decide) rfl rfl rfl (np := 1) (by decide +kernel) rfl rfl rfl rfl rfl (fb_mono h (fun r34 s35 h => ?_))
      refine fb_aload_n dd_Mo_tests_113 rfl (by decide) (fb_iload_n dd_Mo_tests_114 rfl (fb_iload dd_Mo_tests_115 rfl (fb_iconst dd_Mo_tests_117 ?_)))
      refine fb_callVi (z := fb_Mo_part) (k := 5) (vs := [.inl v1, .inl (s3.2 45 v2), .inl 0]) (st := []) dd_Mo_tests_118 vw_Mo_135 (by decide) ⟨_, rfl⟩ rfl rfl (np := 3) (by decide +kernel) rfl rfl rfl rfl rfl (fb_mono h (fun r36 s37 h => ?_))
      refine fb_istore dd_Mo_tests_121 rfl rfl rfl (fb_aload_n dd_Mo_tests_123 rfl (by decide) (fb_bipush dd_Mo_tests_124 (by decide) (fb_iload dd_Mo_tests_126 rfl ?_)))
      refine fb_callVv (z := fb_Mo_with) (k := 5) (vs := [.inl 10, .inl r36]) (st := []) dd_Mo_tests_128 vw_Mo_122 (by decide) rfl rfl rfl (np := 2) (by decide +kernel) rfl rfl rfl rfl rfl (fb_mono h (fun r38 s39 h => ?_))
      refine fb_iload dd_Mo_tests_131 rfl ?_
      refine fb_if_ne (tgt := 152) dd_Mo_tests_133 rfl (by decide) (fun _ => ?_) (fun hz => absurd hz (by decide))
      refine fb_aload_n dd_Mo_tests_152 rfl (by decide) (fb_iload_n dd_Mo_tests_153 rfl (fb_iload_n dd_Mo_tests_154 rfl (fb_iconst dd_Mo_tests_155 ?_)))
      refine fb_callVi (z := fb_Mo_part) (k := 5) (vs := [.inl v1, .inl (σ.2 44 v2), .inl 1]) (st := []) dd_Mo_tests_156 vw_Mo_135 (by decide) ⟨_, rfl⟩ rfl rfl (np := 3) (by decide +kernel) rfl rfl rfl rfl rfl (fb_mono h (fun r40 s41 h => ?_))
      refine fb_istore dd_Mo_tests_159 rfl rfl rfl (fb_aload_n dd_Mo_tests_161 rfl (by decide) (fb_iload dd_Mo_tests_162 rfl ?_))
      refine fb_callVv (z := fb_Mo_load) (k := 5) (vs := [.inl r40]) (st := []) dd_Mo_tests_164 vw_Mo_126 (by decide) rfl rfl rfl (np := 1) (by decide +kernel) rfl rfl rfl rfl rfl (fb_mono h (fun r42 s43 h => ?_))
      refine fb_aload_n dd_Mo_tests_167 rfl (by decide) (fb_iload_n dd_Mo_tests_168 rfl (fb_iload dd_Mo_tests_169 rfl (fb_iconst dd_Mo_tests_171 ?_)))
      refine fb_callVi (z := fb_Mo_part) (k := 5) (vs := [.inl v1, .inl (s3.2 45 v2), .inl 1]) (st := []) dd_Mo_tests_172 vw_Mo_135 (by decide) ⟨_, rfl⟩ rfl rfl (np := 3) (by decide +kernel) rfl rfl rfl rfl rfl (fb_mono h (fun r44 s45 h => ?_))
      refine fb_istore dd_Mo_tests_175 rfl rfl rfl (fb_aload_n dd_Mo_tests_177 rfl (by decide) (fb_iconst dd_Mo_tests_178 (fb_iload dd_Mo_tests_179 rfl ?_)))
      refine fb_callVv (z := fb_Mo_with) (k := 5) (vs := [.inl 3, .inl r44]) (st := []) dd_Mo_tests_181 vw_Mo_122 (by decide) rfl rfl rfl (np := 2) (by decide +kernel) rfl rfl rfl rfl rfl (fb_mono h (fun r46 s47 h => ?_))
      refine fb_aload_n dd_Mo_tests_184 rfl (by decide) (fb_iload_n dd_Mo_tests_185 rfl (fb_bipush dd_Mo_tests_186 (by decide) ?_))
      refine fb_callVv (z := fb_Mo_branch) (k := 5) (vs := [.inl v2, .inl 16]) (st := []) dd_Mo_tests_188 vw_Mo_142 (by decide) rfl rfl rfl (np := 2) (by decide +kernel) rfl rfl rfl rfl rfl (fb_mono h (fun r48 s49 h => ?_))
      exact fb_vret dd_Mo_tests_191 rfl h
    · replace h := h.2 hc
      refine fb_iload dd_Mo_tests_49 rfl ?_
      refine fb_if_eq (tgt := 63) dd_Mo_tests_51 rfl (by decide) (fun hz => absurd hz (by decide)) (fun _ => ?_)
      refine fb_aload_n dd_Mo_tests_54 rfl (by decide) (fb_iload dd_Mo_tests_55 rfl ?_)
      refine fb_callVv (z := fb_Mo_load) (k := 5) (vs := [.inl r2]) (st := []) dd_Mo_tests_57 vw_Mo_126 (by decide) rfl rfl rfl (np := 1) (by decide +kernel) rfl rfl rfl rfl rfl (fb_mono h (fun r50 s51 h => ?_))
      refine fb_goto (tgt := 70) dd_Mo_tests_60 rfl (fb_aload_n dd_Mo_tests_70 rfl (by decide) (fb_iload_n dd_Mo_tests_71 rfl (fb_iload_n dd_Mo_tests_72 rfl (fb_iconst dd_Mo_tests_73 ?_))))
      refine fb_callVi (z := fb_Mo_part) (k := 5) (vs := [.inl v1, .inl (σ.2 44 v2), .inl 1]) (st := []) dd_Mo_tests_74 vw_Mo_135 (by decide) ⟨_, rfl⟩ rfl rfl (np := 3) (by decide +kernel) rfl rfl rfl rfl rfl (fb_mono h (fun r52 s53 h => ?_))
      refine fb_istore dd_Mo_tests_77 rfl rfl rfl (fb_iload dd_Mo_tests_79 rfl ?_)
      refine fb_if_eq (tgt := 91) dd_Mo_tests_81 rfl (by decide) (fun hz => absurd hz (by decide)) (fun _ => ?_)
      refine fb_aload_n dd_Mo_tests_84 rfl (by decide) (fb_iconst dd_Mo_tests_85 (fb_iload dd_Mo_tests_86 rfl ?_))
      refine fb_callVv (z := fb_Mo_with) (k := 5) (vs := [.inl 5, .inl r52]) (st := []) dd_Mo_tests_88 vw_Mo_122 (by decide) rfl rfl rfl (np := 2) (by decide +kernel) rfl rfl rfl rfl rfl (fb_mono h (fun r54 s55 h => ?_))
      refine fb_aload_n dd_Mo_tests_91 rfl (by decide) (fb_iload_n dd_Mo_tests_92 rfl (fb_bipush dd_Mo_tests_93 (by decide) ?_))
      refine fb_callVv (z := fb_Mo_branch) (k := 5) (vs := [.inl v2, .inl 14]) (st := []) dd_Mo_tests_95 vw_Mo_142 (by decide) rfl rfl rfl (np := 2) (by decide +kernel) rfl rfl rfl rfl rfl (fb_mono h (fun r56 s57 h => ?_))
      exact fb_vret dd_Mo_tests_98 rfl h

theorem Mo_arrays_b0 {E : fb_E} {σ : fb_S} {Q : Int → fb_S → Prop} (v1 v2 : Int) (h : (0 ≤ v2 ∧ v2 < 144) ∧ ((-2147483648 ≤ (σ.2 43 v2) ∧ (σ.2 43 v2) < 2147483648) ∧ ((¬ (σ.2 43 v2) = 8 → fb_V E fb_Mo_place 0 [.inr 5, .inl v1, .inl (σ.2 45 v2), .inr 999, .inr 999] [] σ (fun r3 s4 => fb_V E fb_Mo_place 0 [.inr 5, .inl v1, .inl (σ.2 44 v2), .inr 999, .inr 999] [] s4 (fun r5 s6 => (0 ≤ ((6 * v1) + (σ.2 44 v2)) ∧ ((6 * v1) + (σ.2 44 v2)) < 36) ∧ (fb_V E fb_Mo_guard 0 [.inr 5, .inl r3, .inl (s6.2 42 ((6 * v1) + (σ.2 44 v2)))] [] s6 (fun _ s9 => fb_V E fb_Mo_place 0 [.inr 5, .inl v1, .inl (s9.2 46 v2), .inr 999, .inr 999] [] s9 (fun r10 s11 => fb_V E fb_Mo_load 0 [.inr 5, .inl r10] [] s11 (fun _ s13 => fb_V E fb_Mo_indexed 0 [.inr 5, .inl 1, .inl r5] [] s13 (fun _ s15 => Q 0 s15)))))))) ∧ ((σ.2 43 v2) = 8 → fb_V E fb_Mo_place 0 [.inr 5, .inl v1, .inl (σ.2 46 v2), .inr 999, .inr 999] [] σ (fun r16 s17 => fb_V E fb_Mo_place 0 [.inr 5, .inl v1, .inl (σ.2 45 v2), .inr 999, .inr 999] [] s17 (fun r18 s19 => (0 ≤ ((6 * v1) + (σ.2 45 v2)) ∧ ((6 * v1) + (σ.2 45 v2)) < 36) ∧ (fb_V E fb_Mo_guard 0 [.inr 5, .inl r16, .inl (s19.2 42 ((6 * v1) + (σ.2 45 v2)))] [] s19 (fun _ s22 => fb_V E fb_Mo_place 0 [.inr 5, .inl v1, .inl (s22.2 44 v2), .inr 999, .inr 999] [] s22 (fun r23 s24 => fb_V E fb_Mo_indexed 0 [.inr 5, .inl 0, .inl r18] [] s24 (fun _ s26 => fb_V E fb_Mo_with 0 [.inr 5, .inl 1, .inl r23] [] s26 (fun _ s28 => (0 ≤ ((6 * v1) + (s28.2 44 v2)) ∧ ((6 * v1) + (s28.2 44 v2)) < 36) ∧ ((-2147483648 ≤ (s28.2 42 ((6 * v1) + (s28.2 44 v2))) ∧ (s28.2 42 ((6 * v1) + (s28.2 44 v2))) < 2147483648) ∧ ((¬ (s28.2 42 ((6 * v1) + (s28.2 44 v2))) = 2 → Q 0 s28) ∧ ((s28.2 42 ((6 * v1) + (s28.2 44 v2))) = 2 → fb_V E fb_Mo_move 0 [.inr 5, .inl 256, .inl (r23 + 1)] [] s28 (fun _ s32 => Q 0 s32))))))))))))))) : fb_V E fb_Mo_arrays 0 [.inr 5, .inl v1, .inl v2, .inr 999, .inr 999, .inr 999, .inr 999, .inr 999] [] σ Q := by
  refine fb_aload_n dd_Mo_arrays_0 rfl (by decide) (fb_getR 5 5 dd_Mo_arrays_1 rfl rfl rfl (by decide) lk_Mo_19 (fb_iload_n dd_Mo_arrays_4 rfl ?_))
  obtain ⟨q1, h⟩ := h
  refine fb_ild (x := σ.2 43 v2) dd_Mo_arrays_5 rfl q1 rfl (fb_bipush dd_Mo_arrays_6 (by decide) ?_)
  obtain ⟨q2, h⟩ := h
  refine fb_icmp_ne (tgt := 15) dd_Mo_arrays_8 rfl q2 (by decide) (fun hc => ?_) (fun hc => ?_)
  · replace h := h.1 hc
    refine fb_iconst dd_Mo_arrays_15 (fb_istore_n dd_Mo_arrays_16 rfl rfl rfl (fb_iload_n dd_Mo_arrays_17 rfl ?_))
    refine fb_if_eq (tgt := 30) dd_Mo_arrays_18 rfl (by decide) (fun _ => ?_) (fun hz => absurd hz (by decide))
    refine fb_aload_n dd_Mo_arrays_30 rfl (by decide) (fb_getR 5 6 dd_Mo_arrays_31 rfl rfl rfl (by decide) lk_Mo_22 (fb_iload_n dd_Mo_arrays_34 rfl (fb_ild (x := σ.2 44 v2) dd_Mo_arrays_35 rfl q1 rfl (fb_istore dd_Mo_arrays_36 rfl rfl rfl (fb_aload_n dd_Mo_arrays_38 rfl (by decide) (fb_iload_n dd_Mo_arrays_39 rfl (fb_iload_n dd_Mo_arrays_40 rfl ?_)))))))
    refine fb_if_eq (tgt := 53) dd_Mo_arrays_41 rfl (by decide) (fun _ => ?_) (fun hz => absurd hz (by decide))
    refine fb_aload_n dd_Mo_arrays_53 rfl (by decide) (fb_getR 5 7 dd_Mo_arrays_54 rfl rfl rfl (by decide) lk_Mo_25 (fb_iload_n dd_Mo_arrays_57 rfl (fb_ild (x := σ.2 45 v2) dd_Mo_arrays_58 rfl q1 rfl ?_)))
    refine fb_callVi (z := fb_Mo_place) (k := 5) (vs := [.inl v1, .inl (σ.2 45 v2)]) (st := []) dd_Mo_arrays_59 vw_Mo_105 (by decide) ⟨_, rfl⟩ rfl rfl (np := 2) (by decide +kernel) rfl rfl rfl rfl rfl (fb_mono h (fun r3 s4 h => ?_))
    refine fb_istore dd_Mo_arrays_62 rfl rfl rfl (fb_aload_n dd_Mo_arrays_64 rfl (by decide) (fb_iload_n dd_Mo_arrays_65 rfl (fb_iload dd_Mo_arrays_66 rfl ?_)))
    refine fb_callVi (z := fb_Mo_place) (k := 5) (vs := [.inl v1, .inl (σ.2 44 v2)]) (st := []) dd_Mo_arrays_68 vw_Mo_105 (by decide) ⟨_, rfl⟩ rfl rfl (np := 2) (by decide +kernel) rfl rfl rfl rfl rfl (fb_mono h (fun r5 s6 h => ?_))
    refine fb_istore dd_Mo_arrays_71 rfl rfl rfl (fb_aload_n dd_Mo_arrays_73 rfl (by decide) (fb_iload dd_Mo_arrays_74 rfl (fb_aload_n dd_Mo_arrays_76 rfl (by decide) (fb_getR 5 4 dd_Mo_arrays_77 rfl rfl rfl (by decide) lk_Mo_16 (fb_bipush dd_Mo_arrays_80 (by decide) (fb_iload_n dd_Mo_arrays_82 rfl (fb_imul dd_Mo_arrays_83 ?_)))))))
    refine fb_iload dd_Mo_arrays_84 rfl (fb_iadd dd_Mo_arrays_86 ?_)
    obtain ⟨q7, h⟩ := h
    refine fb_ild (x := s6.2 42 ((6 * v1) + (σ.2 44 v2))) dd_Mo_arrays_87 rfl q7 rfl ?_
    refine fb_callVv (z := fb_Mo_guard) (k := 5) (vs := [.inl r3, .inl (s6.2 42 ((6 * v1) + (σ.2 44 v2)))]) (st := []) dd_Mo_arrays_88 vw_Mo_145 (by decide) rfl rfl rfl (np := 2) (by decide +kernel) rfl rfl rfl rfl rfl (fb_mono h (fun r8 s9 h => ?_))
    refine fb_iload_n dd_Mo_arrays_91 rfl ?_
    refine fb_if_ne (tgt := 122) dd_Mo_arrays_92 rfl (by decide) (fun hz => absurd hz (by decide)) (fun _ => ?_)
    refine fb_aload_n dd_Mo_arrays_95 rfl (by decide) (fb_iload_n dd_Mo_arrays_96 rfl (fb_aload_n dd_Mo_arrays_97 rfl (by decide) (fb_getR 5 8 dd_Mo_arrays_98 rfl rfl rfl (by decide) lk_Mo_28 (fb_iload_n dd_Mo_arrays_101 rfl (fb_ild (x := s9.2 46 v2) dd_Mo_arrays_102 rfl q1 rfl ?_)))))
    refine fb_callVi (z := fb_Mo_place) (k := 5) (vs := [.inl v1, .inl (s9.2 46 v2)]) (st := []) dd_Mo_arrays_103 vw_Mo_105 (by decide) ⟨_, rfl⟩ rfl rfl (np := 2) (by decide +kernel) rfl rfl rfl rfl rfl (fb_mono h (fun r10 s11 h => ?_))
    refine fb_istore dd_Mo_arrays_106 rfl rfl rfl (fb_aload_n dd_Mo_arrays_108 rfl (by decide) (fb_iload dd_Mo_arrays_109 rfl ?_))
    refine fb_callVv (z := fb_Mo_load) (k := 5) (vs := [.inl r10]) (st := []) dd_Mo_arrays_111 vw_Mo_126 (by decide) rfl rfl rfl (np := 1) (by decide +kernel) rfl rfl rfl rfl rfl (fb_mono h (fun r12 s13 h => ?_))
    refine fb_aload_n dd_Mo_arrays_114 rfl (by decide) (fb_iconst dd_Mo_arrays_115 (fb_iload dd_Mo_arrays_116 rfl ?_))
    refine fb_callVv (z := fb_Mo_indexed) (k := 5) (vs := [.inl 1, .inl r5]) (st := []) dd_Mo_arrays_118 vw_Mo_148 (by decide) rfl rfl rfl (np := 2) (by decide +kernel) rfl rfl rfl rfl rfl (fb_mono h (fun r14 s15 h => ?_))
    exact fb_vret dd_Mo_arrays_121 rfl h
  · replace h := h.2 hc
    refine fb_iconst dd_Mo_arrays_11 (fb_goto (tgt := 16) dd_Mo_arrays_12 rfl (fb_istore_n dd_Mo_arrays_16 rfl rfl rfl (fb_iload_n dd_Mo_arrays_17 rfl ?_)))
    refine fb_if_eq (tgt := 30) dd_Mo_arrays_18 rfl (by decide) (fun hz => absurd hz (by decide)) (fun _ => ?_)
    refine fb_aload_n dd_Mo_arrays_21 rfl (by decide) (fb_getR 5 7 dd_Mo_arrays_22 rfl rfl rfl (by decide) lk_Mo_25 (fb_iload_n dd_Mo_arrays_25 rfl (fb_ild (x := σ.2 45 v2) dd_Mo_arrays_26 rfl q1 rfl (fb_goto (tgt := 36) dd_Mo_arrays_27 rfl (fb_istore dd_Mo_arrays_36 rfl rfl rfl (fb_aload_n dd_Mo_arrays_38 rfl (by decide) (fb_iload_n dd_Mo_arrays_39 rfl ?_)))))))
    refine fb_iload_n dd_Mo_arrays_40 rfl ?_
    refine fb_if_eq (tgt := 53) dd_Mo_arrays_41 rfl (by decide) (fun hz => absurd hz (by decide)) (fun _ => ?_)
    refine fb_aload_n dd_Mo_arrays_44 rfl (by decide) (fb_getR 5 8 dd_Mo_arrays_45 rfl rfl rfl (by decide) lk_Mo_28 (fb_iload_n dd_Mo_arrays_48 rfl (fb_ild (x := σ.2 46 v2) dd_Mo_arrays_49 rfl q1 rfl (fb_goto (tgt := 59) dd_Mo_arrays_50 rfl ?_))))
    refine fb_callVi (z := fb_Mo_place) (k := 5) (vs := [.inl v1, .inl (σ.2 46 v2)]) (st := []) dd_Mo_arrays_59 vw_Mo_105 (by decide) ⟨_, rfl⟩ rfl rfl (np := 2) (by decide +kernel) rfl rfl rfl rfl rfl (fb_mono h (fun r16 s17 h => ?_))
    refine fb_istore dd_Mo_arrays_62 rfl rfl rfl (fb_aload_n dd_Mo_arrays_64 rfl (by decide) (fb_iload_n dd_Mo_arrays_65 rfl (fb_iload dd_Mo_arrays_66 rfl ?_)))
    refine fb_callVi (z := fb_Mo_place) (k := 5) (vs := [.inl v1, .inl (σ.2 45 v2)]) (st := []) dd_Mo_arrays_68 vw_Mo_105 (by decide) ⟨_, rfl⟩ rfl rfl (np := 2) (by decide +kernel) rfl rfl rfl rfl rfl (fb_mono h (fun r18 s19 h => ?_))
    refine fb_istore dd_Mo_arrays_71 rfl rfl rfl (fb_aload_n dd_Mo_arrays_73 rfl (by decide) (fb_iload dd_Mo_arrays_74 rfl (fb_aload_n dd_Mo_arrays_76 rfl (by decide) (fb_getR 5 4 dd_Mo_arrays_77 rfl rfl rfl (by decide) lk_Mo_16 (fb_bipush dd_Mo_arrays_80 (by decide) (fb_iload_n dd_Mo_arrays_82 rfl (fb_imul dd_Mo_arrays_83 ?_)))))))
    refine fb_iload dd_Mo_arrays_84 rfl (fb_iadd dd_Mo_arrays_86 ?_)
    obtain ⟨q20, h⟩ := h
    refine fb_ild (x := s19.2 42 ((6 * v1) + (σ.2 45 v2))) dd_Mo_arrays_87 rfl q20 rfl ?_
    refine fb_callVv (z := fb_Mo_guard) (k := 5) (vs := [.inl r16, .inl (s19.2 42 ((6 * v1) + (σ.2 45 v2)))]) (st := []) dd_Mo_arrays_88 vw_Mo_145 (by decide) rfl rfl rfl (np := 2) (by decide +kernel) rfl rfl rfl rfl rfl (fb_mono h (fun r21 s22 h => ?_))
    refine fb_iload_n dd_Mo_arrays_91 rfl ?_
    refine fb_if_ne (tgt := 122) dd_Mo_arrays_92 rfl (by decide) (fun _ => ?_) (fun hz => absurd hz (by decide))
    refine fb_aload_n dd_Mo_arrays_122 rfl (by decide) (fb_iload_n dd_Mo_arrays_123 rfl (fb_aload_n dd_Mo_arrays_124 rfl (by decide) (fb_getR 5 6 dd_Mo_arrays_125 rfl rfl rfl (by decide) lk_Mo_22 (fb_iload_n dd_Mo_arrays_128 rfl (fb_ild (x := s22.2 44 v2) dd_Mo_arrays_129 rfl q1 rfl ?_)))))
    refine fb_callVi (z := fb_Mo_place) (k := 5) (vs := [.inl v1, .inl (s22.2 44 v2)]) (st := []) dd_Mo_arrays_130 vw_Mo_105 (by decide) ⟨_, rfl⟩ rfl rfl (np := 2) (by decide +kernel) rfl rfl rfl rfl rfl (fb_mono h (fun r23 s24 h => ?_))
    refine fb_istore dd_Mo_arrays_133 rfl rfl rfl (fb_aload_n dd_Mo_arrays_135 rfl (by decide) (fb_iconst dd_Mo_arrays_136 (fb_iload dd_Mo_arrays_137 rfl ?_)))
    refine fb_callVv (z := fb_Mo_indexed) (k := 5) (vs := [.inl 0, .inl r18]) (st := []) dd_Mo_arrays_139 vw_Mo_148 (by decide) rfl rfl rfl (np := 2) (by decide +kernel) rfl rfl rfl rfl rfl (fb_mono h (fun r25 s26 h => ?_))
    refine fb_aload_n dd_Mo_arrays_142 rfl (by decide) (fb_iconst dd_Mo_arrays_143 (fb_iload dd_Mo_arrays_144 rfl ?_))
    refine fb_callVv (z := fb_Mo_with) (k := 5) (vs := [.inl 1, .inl r23]) (st := []) dd_Mo_arrays_146 vw_Mo_122 (by decide) rfl rfl rfl (np := 2) (by decide +kernel) rfl rfl rfl rfl rfl (fb_mono h (fun r27 s28 h => ?_))
    refine fb_aload_n dd_Mo_arrays_149 rfl (by decide) (fb_getR 5 4 dd_Mo_arrays_150 rfl rfl rfl (by decide) lk_Mo_16 (fb_bipush dd_Mo_arrays_153 (by decide) (fb_iload_n dd_Mo_arrays_155 rfl (fb_imul dd_Mo_arrays_156 (fb_aload_n dd_Mo_arrays_157 rfl (by decide) (fb_getR 5 6 dd_Mo_arrays_158 rfl rfl rfl (by decide) lk_Mo_22 (fb_iload_n dd_Mo_arrays_161 rfl ?_)))))))
    refine fb_ild (x := s28.2 44 v2) dd_Mo_arrays_162 rfl q1 rfl (fb_iadd dd_Mo_arrays_163 ?_)
    obtain ⟨q29, h⟩ := h
    refine fb_ild (x := s28.2 42 ((6 * v1) + (s28.2 44 v2))) dd_Mo_arrays_164 rfl q29 rfl (fb_iconst dd_Mo_arrays_165 ?_)
    obtain ⟨q30, h⟩ := h
    refine fb_icmp_ne (tgt := 180) dd_Mo_arrays_166 rfl q30 (by decide) (fun hc => ?_) (fun hc => ?_)
    · replace h := h.1 hc
      exact fb_vret dd_Mo_arrays_180 rfl h
    · replace h := h.2 hc
      refine fb_aload_n dd_Mo_arrays_169 rfl (by decide) (fb_sipush dd_Mo_arrays_170 (by decide) (fb_iload dd_Mo_arrays_173 rfl (fb_iconst dd_Mo_arrays_175 (fb_iadd dd_Mo_arrays_176 ?_))))
      refine fb_callVv (z := fb_Mo_move) (k := 5) (vs := [.inl 256, .inl (r23 + 1)]) (st := []) dd_Mo_arrays_177 vw_Mo_139 (by decide) rfl rfl rfl (np := 2) (by decide +kernel) rfl rfl rfl rfl rfl (fb_mono h (fun r31 s32 h => ?_))
      exact fb_vret dd_Mo_arrays_180 rfl h

theorem Mo_others_b0 {E : fb_E} {σ : fb_S} {Q : Int → fb_S → Prop} (v1 v2 : Int) (h : (0 ≤ v2 ∧ v2 < 144) ∧ (fb_V E fb_Mo_place 0 [.inr 5, .inl v1, .inl (σ.2 44 v2), .inr 999, .inr 999] [] σ (fun r2 s3 => (0 ≤ ((6 * v1) + (σ.2 44 v2)) ∧ ((6 * v1) + (σ.2 44 v2)) < 36) ∧ ((-2147483648 ≤ (s3.2 43 v2) ∧ (s3.2 43 v2) < 2147483648) ∧ ((¬ (s3.2 43 v2) = 7 → (¬ (s3.2 43 v2) = 14 → fb_V E fb_Mo_others 114 [.inr 5, .inl v1, .inl v2, .inr 999, .inl r2, .inl (s3.2 42 ((6 * v1) + (σ.2 44 v2))), .inl 0, .inr 999] [] s3 Q) ∧ ((s3.2 43 v2) = 14 → fb_V E fb_Mo_part 0 [.inr 5, .inl v1, .inl (σ.2 44 v2), .inl 1] [] s3 (fun r6 s7 => fb_V E fb_Mo_move 0 [.inr 5, .inl r2, .inl 126] [] s7 (fun _ s9 => fb_V E fb_Mo_move 0 [.inr 5, .inl r6, .inl 127] [] s9 (fun _ s11 => fb_V E fb_Mo_plain 0 [.inr 5, .inl 20] [] s11 (fun _ s13 => Q 0 s13)))))) ∧ ((s3.2 43 v2) = 7 → fb_V E fb_Mo_with 0 [.inr 5, .inl 7, .inl r2] [] s3 (fun _ s15 => (-2147483648 ≤ (s3.2 42 ((6 * v1) + (σ.2 44 v2))) ∧ (s3.2 42 ((6 * v1) + (σ.2 44 v2))) < 2147483648) ∧ ((¬ (s3.2 42 ((6 * v1) + (σ.2 44 v2))) = 2 → Q 0 s15) ∧ ((s3.2 42 ((6 * v1) + (σ.2 44 v2))) = 2 → fb_V E fb_Mo_with 0 [.inr 5, .inl 8, .inl (r2 + 1)] [] s15 (fun _ s18 => Q 0 s18)))))))))) : fb_V E fb_Mo_others 0 [.inr 5, .inl v1, .inl v2, .inr 999, .inr 999, .inr 999, .inr 999, .inr 999] [] σ Q := by
  refine fb_aload_n dd_Mo_others_0 rfl (by decide) (fb_getR 5 6 dd_Mo_others_1 rfl rfl rfl (by decide) lk_Mo_22 (fb_iload_n dd_Mo_others_4 rfl ?_))
  obtain ⟨q1, h⟩ := h
  refine fb_ild (x := σ.2 44 v2) dd_Mo_others_5 rfl q1 rfl (fb_istore_n dd_Mo_others_6 rfl rfl rfl (fb_aload_n dd_Mo_others_7 rfl (by decide) (fb_iload_n dd_Mo_others_8 rfl (fb_iload_n dd_Mo_others_9 rfl ?_))))
  refine fb_callVi (z := fb_Mo_place) (k := 5) (vs := [.inl v1, .inl (σ.2 44 v2)]) (st := []) dd_Mo_others_10 vw_Mo_105 (by decide) ⟨_, rfl⟩ rfl rfl (np := 2) (by decide +kernel) rfl rfl rfl rfl rfl (fb_mono h (fun r2 s3 h => ?_))
  refine fb_istore dd_Mo_others_13 rfl rfl rfl (fb_aload_n dd_Mo_others_15 rfl (by decide) (fb_getR 5 4 dd_Mo_others_16 rfl rfl rfl (by decide) lk_Mo_16 (fb_bipush dd_Mo_others_19 (by decide) (fb_iload_n dd_Mo_others_21 rfl (fb_imul dd_Mo_others_22 (fb_iload_n dd_Mo_others_23 rfl (fb_iadd dd_Mo_others_24 ?_)))))))
  obtain ⟨q4, h⟩ := h
  refine fb_ild (x := s3.2 42 ((6 * v1) + (σ.2 44 v2))) dd_Mo_others_25 rfl q4 rfl (fb_istore dd_Mo_others_26 rfl rfl rfl (fb_aload_n dd_Mo_others_28 rfl (by decide) (fb_getR 5 5 dd_Mo_others_29 rfl rfl rfl (by decide) lk_Mo_19 (fb_iload_n dd_Mo_others_32 rfl (fb_ild (x := s3.2 43 v2) dd_Mo_others_33 rfl q1 rfl (fb_bipush dd_Mo_others_34 (by decide) ?_))))))
  obtain ⟨q5, h⟩ := h
  refine fb_icmp_ne (tgt := 66) dd_Mo_others_36 rfl q5 (by decide) (fun hc => ?_) (fun hc => ?_)
  · replace h := h.1 hc
    refine fb_aload_n dd_Mo_others_66 rfl (by decide) (fb_getR 5 5 dd_Mo_others_67 rfl rfl rfl (by decide) lk_Mo_19 (fb_iload_n dd_Mo_others_70 rfl (fb_ild (x := s3.2 43 v2) dd_Mo_others_71 rfl q1 rfl (fb_bipush dd_Mo_others_72 (by decide) ?_))))
    refine fb_icmp_ne (tgt := 111) dd_Mo_others_74 rfl q5 (by decide) (fun hc => ?_) (fun hc => ?_)
    · replace h := h.1 hc
      refine fb_iconst dd_Mo_others_111 (fb_istore dd_Mo_others_112 rfl rfl rfl ?_)
      exact fb_drop (fb_sub_k (fb_sub_k (fb_sub_k (fb_sub_d (fb_sub_k (fb_sub_k (fb_sub_k (fb_sub_k fb_sub_0)))))))) h
    · replace h := h.2 hc
      refine fb_aload_n dd_Mo_others_77 rfl (by decide) (fb_iload_n dd_Mo_others_78 rfl (fb_iload_n dd_Mo_others_79 rfl (fb_iconst dd_Mo_others_80 ?_)))
      refine fb_callVi (z := fb_Mo_part) (k := 5) (vs := [.inl v1, .inl (σ.2 44 v2), .inl 1]) (st := []) dd_Mo_others_81 vw_Mo_135 (by decide) ⟨_, rfl⟩ rfl rfl (np := 3) (by decide +kernel) rfl rfl rfl rfl rfl (fb_mono h (fun r6 s7 h => ?_))
      refine fb_istore dd_Mo_others_84 rfl rfl rfl (fb_aload_n dd_Mo_others_86 rfl (by decide) (fb_iload dd_Mo_others_87 rfl (fb_bipush dd_Mo_others_89 (by decide) ?_)))
      refine fb_callVv (z := fb_Mo_move) (k := 5) (vs := [.inl r2, .inl 126]) (st := []) dd_Mo_others_91 vw_Mo_139 (by decide) rfl rfl rfl (np := 2) (by decide +kernel) rfl rfl rfl rfl rfl (fb_mono h (fun r8 s9 h => ?_))
      refine fb_aload_n dd_Mo_others_94 rfl (by decide) (fb_iload dd_Mo_others_95 rfl (fb_bipush dd_Mo_others_97 (by decide) ?_))
      refine fb_callVv (z := fb_Mo_move) (k := 5) (vs := [.inl r6, .inl 127]) (st := []) dd_Mo_others_99 vw_Mo_139 (by decide) rfl rfl rfl (np := 2) (by decide +kernel) rfl rfl rfl rfl rfl (fb_mono h (fun r10 s11 h => ?_))
      refine fb_aload_n dd_Mo_others_102 rfl (by decide) (fb_bipush dd_Mo_others_103 (by decide) ?_)
      refine fb_callVv (z := fb_Mo_plain) (k := 5) (vs := [.inl 20]) (st := []) dd_Mo_others_105 vw_Mo_132 (by decide) rfl rfl rfl (np := 1) (by decide +kernel) rfl rfl rfl rfl rfl (fb_mono h (fun r12 s13 h => ?_))
      refine fb_goto (tgt := 228) dd_Mo_others_108 rfl ?_
      exact fb_vret dd_Mo_others_228 rfl h
  · replace h := h.2 hc
    refine fb_aload_n dd_Mo_others_39 rfl (by decide) (fb_bipush dd_Mo_others_40 (by decide) (fb_iload dd_Mo_others_42 rfl ?_))
    refine fb_callVv (z := fb_Mo_with) (k := 5) (vs := [.inl 7, .inl r2]) (st := []) dd_Mo_others_44 vw_Mo_122 (by decide) rfl rfl rfl (np := 2) (by decide +kernel) rfl rfl rfl rfl rfl (fb_mono h (fun r14 s15 h => ?_))
    refine fb_iload dd_Mo_others_47 rfl (fb_iconst dd_Mo_others_49 ?_)
    obtain ⟨q16, h⟩ := h
    refine fb_icmp_ne (tgt := 228) dd_Mo_others_50 rfl q16 (by decide) (fun hc => ?_) (fun hc => ?_)
    · replace h := h.1 hc
      exact fb_vret dd_Mo_others_228 rfl h
    · replace h := h.2 hc
      refine fb_aload_n dd_Mo_others_53 rfl (by decide) (fb_bipush dd_Mo_others_54 (by decide) (fb_iload dd_Mo_others_56 rfl (fb_iconst dd_Mo_others_58 (fb_iadd dd_Mo_others_59 ?_))))
      refine fb_callVv (z := fb_Mo_with) (k := 5) (vs := [.inl 8, .inl (r2 + 1)]) (st := []) dd_Mo_others_60 vw_Mo_122 (by decide) rfl rfl rfl (np := 2) (by decide +kernel) rfl rfl rfl rfl rfl (fb_mono h (fun r17 s18 h => ?_))
      refine fb_goto (tgt := 228) dd_Mo_others_63 rfl ?_
      exact fb_vret dd_Mo_others_228 rfl h
theorem Mo_others_b114 {E : fb_E} {σ : fb_S} {Q : Int → fb_S → Prop} (v1 v2 v4 v5 v6 : Int) (h : (-2147483648 ≤ v6 ∧ v6 < 2147483648) ∧ ((-2147483648 ≤ v5 ∧ v5 < 2147483648) ∧ ((v5 ≤ v6 → Q 0 σ) ∧ (¬ v5 ≤ v6 → (0 ≤ v2 ∧ v2 < 144) ∧ ((-2147483648 ≤ (σ.2 43 v2) ∧ (σ.2 43 v2) < 2147483648) ∧ ((¬ (σ.2 43 v2) = 0 → (¬ (σ.2 43 v2) = 1 → fb_V E fb_Mo_load 0 [.inr 5, .inl (v4 + v6)] [] σ (fun _ s6 => (-2147483648 ≤ (s6.2 43 v2) ∧ (s6.2 43 v2) < 2147483648) ∧ ((¬ (s6.2 43 v2) = 15 → fb_V E fb_Mo_with 0 [.inr 5, .inl 1, .inl (v4 + v6)] [] s6 (fun _ s9 => fb_V E fb_Mo_others 114 [.inr 5, .inl v1, .inl v2, .inr 999, .inl v4, .inl v5, .inl (v6 + 1), .inr 999] [] s9 Q)) ∧ ((s6.2 43 v2) = 15 → fb_V E fb_Mo_plain 0 [.inr 5, .inl 21] [] s6 (fun _ s11 => fb_V E fb_Mo_others 114 [.inr 5, .inl v1, .inl v2, .inr 999, .inl v4, .inl v5, .inl (v6 + 1), .inr 999] [] s11 Q))))) ∧ ((σ.2 43 v2) = 1 → fb_V E fb_Mo_part 0 [.inr 5, .inl v1, .inl (σ.2 45 v2), .inl v6] [] σ (fun r12 s13 => fb_V E fb_Mo_load 0 [.inr 5, .inl r12] [] s13 (fun _ s15 => (-2147483648 ≤ (s15.2 43 v2) ∧ (s15.2 43 v2) < 2147483648) ∧ ((¬ (s15.2 43 v2) = 15 → fb_V E fb_Mo_with 0 [.inr 5, .inl 1, .inl (v4 + v6)] [] s15 (fun _ s18 => fb_V E fb_Mo_others 114 [.inr 5, .inl v1, .inl v2, .inr 999, .inl v4, .inl v5, .inl (v6 + 1), .inr 999] [] s18 Q)) ∧ ((s15.2 43 v2) = 15 → fb_V E fb_Mo_plain 0 [.inr 5, .inl 21] [] s15 (fun _ s20 => fb_V E fb_Mo_others 114 [.inr 5, .inl v1, .inl v2, .inr 999, .inl v4, .inl v5, .inl (v6 + 1), .inr 999] [] s20 Q))))))) ∧ ((σ.2 43 v2) = 0 → (-2147483648 ≤ (σ.2 45 v2) ∧ (σ.2 45 v2) < 2147483648) ∧ ((0 ≤ (8 * v6) ∧ (8 * v6) < 31) ∧ (fb_V E fb_Mo_load 0 [.inr 5, .inl (256 + (((σ.2 45 v2) / 2 ^ ((8 * v6) : Int).toNat) % 256))] [] σ (fun _ s24 => (-2147483648 ≤ (s24.2 43 v2) ∧ (s24.2 43 v2) < 2147483648) ∧ ((¬ (s24.2 43 v2) = 15 → fb_V E fb_Mo_with 0 [.inr 5, .inl 1, .inl (v4 + v6)] [] s24 (fun _ s27 => fb_V E fb_Mo_others 114 [.inr 5, .inl v1, .inl v2, .inr 999, .inl v4, .inl v5, .inl (v6 + 1), .inr 999] [] s27 Q)) ∧ ((s24.2 43 v2) = 15 → fb_V E fb_Mo_plain 0 [.inr 5, .inl 21] [] s24 (fun _ s29 => fb_V E fb_Mo_others 114 [.inr 5, .inl v1, .inl v2, .inr 999, .inl v4, .inl v5, .inl (v6 + 1), .inr 999] [] s29 Q))))))))))))) : fb_V E fb_Mo_others 114 [.inr 5, .inl v1, .inl v2, .inr 999, .inl v4, .inl v5, .inl v6, .inr 999] [] σ Q := by
  refine fb_iload dd_Mo_others_114 rfl (fb_iload dd_Mo_others_116 rfl ?_)
  obtain ⟨q1, h⟩ := h
  obtain ⟨q2, h⟩ := h
  refine fb_icmp_ge (tgt := 228) dd_Mo_others_118 rfl q1 q2 (fun hc => ?_) (fun hc => ?_)
  · replace h := h.1 hc
    exact fb_vret dd_Mo_others_228 rfl h
  · replace h := h.2 hc
    refine fb_aload_n dd_Mo_others_121 rfl (by decide) (fb_getR 5 5 dd_Mo_others_122 rfl rfl rfl (by decide) lk_Mo_19 (fb_iload_n dd_Mo_others_125 rfl ?_))
    obtain ⟨q3, h⟩ := h
    refine fb_ild (x := σ.2 43 v2) dd_Mo_others_126 rfl q3 rfl ?_
    obtain ⟨q4, h⟩ := h
    refine fb_if_ne (tgt := 153) dd_Mo_others_127 rfl q4 (fun hc => ?_) (fun hc => ?_)
    · replace h := h.1 hc
      refine fb_aload_n dd_Mo_others_153 rfl (by decide) (fb_getR 5 5 dd_Mo_others_154 rfl rfl rfl (by decide) lk_Mo_19 (fb_iload_n dd_Mo_others_157 rfl (fb_ild (x := σ.2 43 v2) dd_Mo_others_158 rfl q3 rfl (fb_iconst dd_Mo_others_159 ?_))))
      refine fb_icmp_ne (tgt := 179) dd_Mo_others_160 rfl q4 (by decide) (fun hc => ?_) (fun hc => ?_)
      · replace h := h.1 hc
        refine fb_iload dd_Mo_others_179 rfl (fb_iload dd_Mo_others_181 rfl (fb_iadd dd_Mo_others_183 (fb_istore dd_Mo_others_184 rfl rfl rfl (fb_aload_n dd_Mo_others_186 rfl (by decide) (fb_iload dd_Mo_others_187 rfl ?_)))))
        refine fb_callVv (z := fb_Mo_load) (k := 5) (vs := [.inl (v4 + v6)]) (st := []) dd_Mo_others_189 vw_Mo_126 (by decide) rfl rfl rfl (np := 1) (by decide +kernel) rfl rfl rfl rfl rfl (fb_mono h (fun r5 s6 h => ?_))
        refine fb_aload_n dd_Mo_others_192 rfl (by decide) (fb_getR 5 5 dd_Mo_others_193 rfl rfl rfl (by decide) lk_Mo_19 (fb_iload_n dd_Mo_others_196 rfl (fb_ild (x := s6.2 43 v2) dd_Mo_others_197 rfl q3 rfl (fb_bipush dd_Mo_others_198 (by decide) ?_))))
        obtain ⟨q7, h⟩ := h
        refine fb_icmp_ne (tgt := 212) dd_Mo_others_200 rfl q7 (by decide) (fun hc => ?_) (fun hc => ?_)
        · replace h := h.1 hc
          refine fb_aload_n dd_Mo_others_212 rfl (by decide) (fb_iconst dd_Mo_others_213 (fb_iload dd_Mo_others_214 rfl (fb_iload dd_Mo_others_216 rfl (fb_iadd dd_Mo_others_218 ?_))))
          refine fb_callVv (z := fb_Mo_with) (k := 5) (vs := [.inl 1, .inl (v4 + v6)]) (st := []) dd_Mo_others_219 vw_Mo_122 (by decide) rfl rfl rfl (np := 2) (by decide +kernel) rfl rfl rfl rfl rfl (fb_mono h (fun r8 s9 h => ?_))
          refine fb_iinc dd_Mo_others_222 rfl rfl rfl (fb_goto (tgt := 114) dd_Mo_others_225 rfl ?_)
          exact fb_drop (fb_sub_k (fb_sub_k (fb_sub_k (fb_sub_k (fb_sub_k (fb_sub_k (fb_sub_k (fb_sub_d fb_sub_0)))))))) h
        · replace h := h.2 hc
          refine fb_aload_n dd_Mo_others_203 rfl (by decide) (fb_bipush dd_Mo_others_204 (by decide) ?_)
          refine fb_callVv (z := fb_Mo_plain) (k := 5) (vs := [.inl 21]) (st := []) dd_Mo_others_206 vw_Mo_132 (by decide) rfl rfl rfl (np := 1) (by decide +kernel) rfl rfl rfl rfl rfl (fb_mono h (fun r10 s11 h => ?_))
          refine fb_goto (tgt := 222) dd_Mo_others_209 rfl (fb_iinc dd_Mo_others_222 rfl rfl rfl (fb_goto (tgt := 114) dd_Mo_others_225 rfl ?_))
          exact fb_drop (fb_sub_k (fb_sub_k (fb_sub_k (fb_sub_k (fb_sub_k (fb_sub_k (fb_sub_k (fb_sub_d fb_sub_0)))))))) h
      · replace h := h.2 hc
        refine fb_aload_n dd_Mo_others_163 rfl (by decide) (fb_iload_n dd_Mo_others_164 rfl (fb_aload_n dd_Mo_others_165 rfl (by decide) (fb_getR 5 7 dd_Mo_others_166 rfl rfl rfl (by decide) lk_Mo_25 (fb_iload_n dd_Mo_others_169 rfl (fb_ild (x := σ.2 45 v2) dd_Mo_others_170 rfl q3 rfl (fb_iload dd_Mo_others_171 rfl ?_))))))
        refine fb_callVi (z := fb_Mo_part) (k := 5) (vs := [.inl v1, .inl (σ.2 45 v2), .inl v6]) (st := []) dd_Mo_others_173 vw_Mo_135 (by decide) ⟨_, rfl⟩ rfl rfl (np := 3) (by decide +kernel) rfl rfl rfl rfl rfl (fb_mono h (fun r12 s13 h => ?_))
        refine fb_goto (tgt := 184) dd_Mo_others_176 rfl (fb_istore dd_Mo_others_184 rfl rfl rfl (fb_aload_n dd_Mo_others_186 rfl (by decide) (fb_iload dd_Mo_others_187 rfl ?_)))
        refine fb_callVv (z := fb_Mo_load) (k := 5) (vs := [.inl r12]) (st := []) dd_Mo_others_189 vw_Mo_126 (by decide) rfl rfl rfl (np := 1) (by decide +kernel) rfl rfl rfl rfl rfl (fb_mono h (fun r14 s15 h => ?_))
        refine fb_aload_n dd_Mo_others_192 rfl (by decide) (fb_getR 5 5 dd_Mo_others_193 rfl rfl rfl (by decide) lk_Mo_19 (fb_iload_n dd_Mo_others_196 rfl (fb_ild (x := s15.2 43 v2) dd_Mo_others_197 rfl q3 rfl (fb_bipush dd_Mo_others_198 (by decide) ?_))))
        obtain ⟨q16, h⟩ := h
        refine fb_icmp_ne (tgt := 212) dd_Mo_others_200 rfl q16 (by decide) (fun hc => ?_) (fun hc => ?_)
        · replace h := h.1 hc
          refine fb_aload_n dd_Mo_others_212 rfl (by decide) (fb_iconst dd_Mo_others_213 (fb_iload dd_Mo_others_214 rfl (fb_iload dd_Mo_others_216 rfl (fb_iadd dd_Mo_others_218 ?_))))
          refine fb_callVv (z := fb_Mo_with) (k := 5) (vs := [.inl 1, .inl (v4 + v6)]) (st := []) dd_Mo_others_219 vw_Mo_122 (by decide) rfl rfl rfl (np := 2) (by decide +kernel) rfl rfl rfl rfl rfl (fb_mono h (fun r17 s18 h => ?_))
          refine fb_iinc dd_Mo_others_222 rfl rfl rfl (fb_goto (tgt := 114) dd_Mo_others_225 rfl ?_)
          exact fb_drop (fb_sub_k (fb_sub_k (fb_sub_k (fb_sub_k (fb_sub_k (fb_sub_k (fb_sub_k (fb_sub_d fb_sub_0)))))))) h
        · replace h := h.2 hc
          refine fb_aload_n dd_Mo_others_203 rfl (by decide) (fb_bipush dd_Mo_others_204 (by decide) ?_)
          refine fb_callVv (z := fb_Mo_plain) (k := 5) (vs := [.inl 21]) (st := []) dd_Mo_others_206 vw_Mo_132 (by decide) rfl rfl rfl (np := 1) (by decide +kernel) rfl rfl rfl rfl rfl (fb_mono h (fun r19 s20 h => ?_))
          refine fb_goto (tgt := 222) dd_Mo_others_209 rfl (fb_iinc dd_Mo_others_222 rfl rfl rfl (fb_goto (tgt := 114) dd_Mo_others_225 rfl ?_))
          exact fb_drop (fb_sub_k (fb_sub_k (fb_sub_k (fb_sub_k (fb_sub_k (fb_sub_k (fb_sub_k (fb_sub_d fb_sub_0)))))))) h
    · replace h := h.2 hc
      refine fb_sipush dd_Mo_others_130 (by decide) (fb_aload_n dd_Mo_others_133 rfl (by decide) (fb_getR 5 7 dd_Mo_others_134 rfl rfl rfl (by decide) lk_Mo_25 (fb_iload_n dd_Mo_others_137 rfl (fb_ild (x := σ.2 45 v2) dd_Mo_others_138 rfl q3 rfl (fb_bipush dd_Mo_others_139 (by decide) (fb_iload dd_Mo_others_141 rfl (fb_imul dd_Mo_others_143 ?_)))))))
      obtain ⟨q21, h⟩ := h
      obtain ⟨q22, h⟩ := h
      refine fb_ishr dd_Mo_others_144 q21 q22 (fb_sipush dd_Mo_others_145 (by decide) (fb_iandM 8 (p := 256) (by decide) (by decide) (by decide) dd_Mo_others_148 (fb_iadd dd_Mo_others_149 (fb_goto (tgt := 184) dd_Mo_others_150 rfl (fb_istore dd_Mo_others_184 rfl rfl rfl (fb_aload_n dd_Mo_others_186 rfl (by decide) (fb_iload dd_Mo_others_187 rfl ?_)))))))
      refine fb_callVv (z := fb_Mo_load) (k := 5) (vs := [.inl (256 + (((σ.2 45 v2) / 2 ^ ((8 * v6) : Int).toNat) % 256))]) (st := []) dd_Mo_others_189 vw_Mo_126 (by decide) rfl rfl rfl (np := 1) (by decide +kernel) rfl rfl rfl rfl rfl (fb_mono h (fun r23 s24 h => ?_))
      refine fb_aload_n dd_Mo_others_192 rfl (by decide) (fb_getR 5 5 dd_Mo_others_193 rfl rfl rfl (by decide) lk_Mo_19 (fb_iload_n dd_Mo_others_196 rfl (fb_ild (x := s24.2 43 v2) dd_Mo_others_197 rfl q3 rfl (fb_bipush dd_Mo_others_198 (by decide) ?_))))
      obtain ⟨q25, h⟩ := h
      refine fb_icmp_ne (tgt := 212) dd_Mo_others_200 rfl q25 (by decide) (fun hc => ?_) (fun hc => ?_)
      · replace h := h.1 hc
        refine fb_aload_n dd_Mo_others_212 rfl (by decide) (fb_iconst dd_Mo_others_213 (fb_iload dd_Mo_others_214 rfl (fb_iload dd_Mo_others_216 rfl (fb_iadd dd_Mo_others_218 ?_))))
        refine fb_callVv (z := fb_Mo_with) (k := 5) (vs := [.inl 1, .inl (v4 + v6)]) (st := []) dd_Mo_others_219 vw_Mo_122 (by decide) rfl rfl rfl (np := 2) (by decide +kernel) rfl rfl rfl rfl rfl (fb_mono h (fun r26 s27 h => ?_))
        refine fb_iinc dd_Mo_others_222 rfl rfl rfl (fb_goto (tgt := 114) dd_Mo_others_225 rfl ?_)
        exact fb_drop (fb_sub_k (fb_sub_k (fb_sub_k (fb_sub_k (fb_sub_k (fb_sub_k (fb_sub_k (fb_sub_d fb_sub_0)))))))) h
      · replace h := h.2 hc
        refine fb_aload_n dd_Mo_others_203 rfl (by decide) (fb_bipush dd_Mo_others_204 (by decide) ?_)
        refine fb_callVv (z := fb_Mo_plain) (k := 5) (vs := [.inl 21]) (st := []) dd_Mo_others_206 vw_Mo_132 (by decide) rfl rfl rfl (np := 1) (by decide +kernel) rfl rfl rfl rfl rfl (fb_mono h (fun r28 s29 h => ?_))
        refine fb_goto (tgt := 222) dd_Mo_others_209 rfl (fb_iinc dd_Mo_others_222 rfl rfl rfl (fb_goto (tgt := 114) dd_Mo_others_225 rfl ?_))
        exact fb_drop (fb_sub_k (fb_sub_k (fb_sub_k (fb_sub_k (fb_sub_k (fb_sub_k (fb_sub_k (fb_sub_d fb_sub_0)))))))) h

theorem Mo_layOut_b0 {E : fb_E} {σ : fb_S} {Q : Int → fb_S → Prop} (h : fb_V E fb_Mo_layOut 7 [.inr 5, .inl 0, .inr 999, .inr 999] [] (fb_sg σ 173 0) Q) : fb_V E fb_Mo_layOut 0 [.inr 5, .inr 999, .inr 999, .inr 999] [] σ Q := by
  refine fb_aload_n dd_Mo_layOut_0 rfl (by decide) (fb_iconst dd_Mo_layOut_1 (fb_putI 5 13 dd_Mo_layOut_2 rfl rfl rfl (by decide) rfl (by decide +kernel) lk_Mo_109 (fb_iconst dd_Mo_layOut_5 (fb_istore_n dd_Mo_layOut_6 rfl rfl rfl ?_))))
  exact h
theorem Mo_layOut_b7 {E : fb_E} {σ : fb_S} {Q : Int → fb_S → Prop} (v1 : Int) (h : (-2147483648 ≤ v1 ∧ v1 < 2147483648) ∧ ((-2147483648 ≤ (σ.1 160) ∧ (σ.1 160) < 2147483648) ∧ (((σ.1 160) ≤ v1 → Q 0 σ) ∧ (¬ (σ.1 160) ≤ v1 → fb_V E fb_Mo_layOut 25 [.inr 5, .inl v1, .inl (24 * v1), .inr 999] [] (fb_sg σ 175 (-1)) Q)))) : fb_V E fb_Mo_layOut 7 [.inr 5, .inl v1, .inr 999, .inr 999] [] σ Q := by
  refine fb_iload_n dd_Mo_layOut_7 rfl (fb_aload_n dd_Mo_layOut_8 rfl (by decide) (fb_getI (x := σ.1 160) 5 0 dd_Mo_layOut_9 rfl rfl rfl (by decide) lk_Mo_72 rfl ?_))
  obtain ⟨q1, h⟩ := h
  obtain ⟨q2, h⟩ := h
  refine fb_icmp_ge (tgt := 212) dd_Mo_layOut_12 rfl q1 q2 (fun hc => ?_) (fun hc => ?_)
  · replace h := h.1 hc
    exact fb_vret dd_Mo_layOut_212 rfl h
  · replace h := h.2 hc
    refine fb_aload_n dd_Mo_layOut_15 rfl (by decide) (fb_iconst dd_Mo_layOut_16 (fb_putI 5 15 dd_Mo_layOut_17 rfl rfl rfl (by decide) rfl (by decide +kernel) lk_Mo_119 (fb_bipush dd_Mo_layOut_20 (by decide) (fb_iload_n dd_Mo_layOut_22 rfl (fb_imul dd_Mo_layOut_23 (fb_istore_n dd_Mo_layOut_24 rfl rfl rfl ?_))))))
    exact h
theorem Mo_layOut_b25 {E : fb_E} {σ : fb_S} {Q : Int → fb_S → Prop} (v1 v2 : Int) (h : (0 ≤ v1 ∧ v1 < 6) ∧ ((-2147483648 ≤ v2 ∧ v2 < 2147483648) ∧ ((-2147483648 ≤ ((24 * v1) + (σ.2 41 v1)) ∧ ((24 * v1) + (σ.2 41 v1)) < 2147483648) ∧ ((((24 * v1) + (σ.2 41 v1)) ≤ v2 → fb_V E fb_Mo_layOut 7 [.inr 5, .inl (v1 + 1), .inr 999, .inr 999] [] σ Q) ∧ (¬ ((24 * v1) + (σ.2 41 v1)) ≤ v2 → (0 ≤ v2 ∧ v2 < 144) ∧ ((-2147483648 ≤ (σ.2 51 v2) ∧ (σ.2 51 v2) < 2147483648) ∧ (((σ.2 51 v2) = 0 → fb_V E fb_Mo_layOut 61 [.inr 5, .inl v1, .inl v2, .inl (σ.2 43 v2)] [] σ Q) ∧ (¬ (σ.2 51 v2) = 0 → fb_V E fb_Mo_layOut 61 [.inr 5, .inl v1, .inl v2, .inl (σ.2 43 v2)] [] (fb_sg σ 175 (-1)) Q)))))))) : fb_V E fb_Mo_layOut 25 [.inr 5, .inl v1, .inl v2, .inr 999] [] σ Q := by
  refine fb_iload_n dd_Mo_layOut_25 rfl (fb_bipush dd_Mo_layOut_26 (by decide) (fb_iload_n dd_Mo_layOut_28 rfl (fb_imul dd_Mo_layOut_29 (fb_aload_n dd_Mo_layOut_30 rfl (by decide) (fb_getR 5 3 dd_Mo_layOut_31 rfl rfl rfl (by decide) lk_Mo_13 (fb_iload_n dd_Mo_layOut_34 rfl ?_))))))
  obtain ⟨q1, h⟩ := h
  refine fb_ild (x := σ.2 41 v1) dd_Mo_layOut_35 rfl q1 rfl (fb_iadd dd_Mo_layOut_36 ?_)
  obtain ⟨q2, h⟩ := h
  obtain ⟨q3, h⟩ := h
  refine fb_icmp_ge (tgt := 206) dd_Mo_layOut_37 rfl q2 q3 (fun hc => ?_) (fun hc => ?_)
  · replace h := h.1 hc
    refine fb_iinc dd_Mo_layOut_206 rfl rfl rfl (fb_goto (tgt := 7) dd_Mo_layOut_209 rfl ?_)
    exact fb_drop (fb_sub_k (fb_sub_k (fb_sub_d (fb_sub_k fb_sub_0)))) h
  · replace h := h.2 hc
    refine fb_aload_n dd_Mo_layOut_40 rfl (by decide) (fb_getR 5 5 dd_Mo_layOut_41 rfl rfl rfl (by decide) lk_Mo_19 (fb_iload_n dd_Mo_layOut_44 rfl ?_))
    obtain ⟨q4, h⟩ := h
    refine fb_ild (x := σ.2 43 v2) dd_Mo_layOut_45 rfl q4 rfl (fb_istore_n dd_Mo_layOut_46 rfl rfl rfl (fb_aload_n dd_Mo_layOut_47 rfl (by decide) (fb_getR 5 17 dd_Mo_layOut_48 rfl rfl rfl (by decide) lk_Mo_44 (fb_iload_n dd_Mo_layOut_51 rfl (fb_zld (x := σ.2 51 v2) dd_Mo_layOut_52 rfl q4 rfl ?_)))))
    obtain ⟨q5, h⟩ := h
    refine fb_if_eq (tgt := 61) dd_Mo_layOut_53 rfl q5 (fun hc => ?_) (fun hc => ?_)
    · replace h := h.1 hc
      exact h
    · replace h := h.2 hc
      refine fb_aload_n dd_Mo_layOut_56 rfl (by decide) (fb_iconst dd_Mo_layOut_57 (fb_putI 5 15 dd_Mo_layOut_58 rfl rfl rfl (by decide) rfl (by decide +kernel) lk_Mo_119 ?_))
      exact h
theorem Mo_layOut_b61 {E : fb_E} {σ : fb_S} {Q : Int → fb_S → Prop} (v1 v2 v3 : Int) (h : (0 ≤ v2 ∧ v2 < 144) ∧ ((-2147483648 ≤ v3 ∧ v3 < 2147483648) ∧ ((v3 < 2 → (v3 = 8 → fb_V E fb_Mo_arrays 0 [.inr 5, .inl v1, .inl v2, .inr 999, .inr 999, .inr 999, .inr 999, .inr 999] [] (fb_sg (fb_sm σ 50 v2 (σ.1 173)) 181 0) (fun _ s4 => fb_V E fb_Mo_layOut 184 [.inr 5, .inl v1, .inl v2, .inl v3] [] s4 Q)) ∧ (¬ v3 = 8 → (¬ v3 = 9 → (¬ v3 = 10 → fb_V E fb_Mo_branches 0 [.inl v3] [] (fb_sg (fb_sm σ 50 v2 (σ.1 173)) 181 0) (fun r5 s6 => (-2147483648 ≤ r5 ∧ r5 < 2147483648) ∧ ((r5 = 0 → (¬ v3 = 13 → fb_V E fb_Mo_others 0 [.inr 5, .inl v1, .inl v2, .inr 999, .inr 999, .inr 999, .inr 999, .inr 999] [] s6 (fun _ s9 => fb_V E fb_Mo_layOut 184 [.inr 5, .inl v1, .inl v2, .inl v3] [] s9 Q)) ∧ (v3 = 13 → fb_V E fb_Mo_call 0 [.inr 5, .inl v1, .inl v2, .inr 999, .inr 999, .inr 999, .inr 999, .inr 999] [] s6 (fun _ s11 => fb_V E fb_Mo_layOut 184 [.inr 5, .inl v1, .inl v2, .inl v3] [] s11 Q))) ∧ (¬ r5 = 0 → fb_V E fb_Mo_tests 0 [.inr 5, .inl v1, .inl v2, .inr 999, .inr 999, .inr 999, .inr 999, .inr 999, .inr 999] [] s6 (fun _ s13 => fb_V E fb_Mo_layOut 184 [.inr 5, .inl v1, .inl v2, .inl v3] [] s13 Q))))) ∧ (v3 = 10 → fb_V E fb_Mo_goal 0 [.inr 5, .inl v2] [] (fb_sg (fb_sm σ 50 v2 (σ.1 173)) 181 0) (fun r14 s15 => (0 ≤ ((24 * v1) + r14) ∧ ((24 * v1) + r14) < 144) ∧ (fb_V E fb_Mo_to 0 [.inr 5, .inl 18, .inl (s15.2 50 ((24 * v1) + r14))] [] s15 (fun _ s18 => fb_V E fb_Mo_layOut 184 [.inr 5, .inl v1, .inl v2, .inl v3] [] s18 Q))))) ∧ (v3 = 9 → fb_V E fb_Mo_arrays 0 [.inr 5, .inl v1, .inl v2, .inr 999, .inr 999, .inr 999, .inr 999, .inr 999] [] (fb_sg (fb_sm σ 50 v2 (σ.1 173)) 181 0) (fun _ s20 => fb_V E fb_Mo_layOut 184 [.inr 5, .inl v1, .inl v2, .inl v3] [] s20 Q)))) ∧ (¬ v3 < 2 → (6 < v3 → (v3 = 8 → fb_V E fb_Mo_arrays 0 [.inr 5, .inl v1, .inl v2, .inr 999, .inr 999, .inr 999, .inr 999, .inr 999] [] (fb_sg (fb_sm σ 50 v2 (σ.1 173)) 181 0) (fun _ s22 => fb_V E fb_Mo_layOut 184 [.inr 5, .inl v1, .inl v2, .inl v3] [] s22 Q)) ∧ (¬ v3 = 8 → (¬ v3 = 9 → (¬ v3 = 10 → fb_V E fb_Mo_branches 0 [.inl v3] [] (fb_sg (fb_sm σ 50 v2 (σ.1 173)) 181 0) (fun r23 s24 => (-2147483648 ≤ r23 ∧ r23 < 2147483648) ∧ ((r23 = 0 → (¬ v3 = 13 → fb_V E fb_Mo_others 0 [.inr 5, .inl v1, .inl v2, .inr 999, .inr 999, .inr 999, .inr 999, .inr 999] [] s24 (fun _ s27 => fb_V E fb_Mo_layOut 184 [.inr 5, .inl v1, .inl v2, .inl v3] [] s27 Q)) ∧ (v3 = 13 → fb_V E fb_Mo_call 0 [.inr 5, .inl v1, .inl v2, .inr 999, .inr 999, .inr 999, .inr 999, .inr 999] [] s24 (fun _ s29 => fb_V E fb_Mo_layOut 184 [.inr 5, .inl v1, .inl v2, .inl v3] [] s29 Q))) ∧ (¬ r23 = 0 → fb_V E fb_Mo_tests 0 [.inr 5, .inl v1, .inl v2, .inr 999, .inr 999, .inr 999, .inr 999, .inr 999, .inr 999] [] s24 (fun _ s31 => fb_V E fb_Mo_layOut 184 [.inr 5, .inl v1, .inl v2, .inl v3] [] s31 Q))))) ∧ (v3 = 10 → fb_V E fb_Mo_goal 0 [.inr 5, .inl v2] [] (fb_sg (fb_sm σ 50 v2 (σ.1 173)) 181 0) (fun r32 s33 => (0 ≤ ((24 * v1) + r32) ∧ ((24 * v1) + r32) < 144) ∧ (fb_V E fb_Mo_to 0 [.inr 5, .inl 18, .inl (s33.2 50 ((24 * v1) + r32))] [] s33 (fun _ s36 => fb_V E fb_Mo_layOut 184 [.inr 5, .inl v1, .inl v2, .inl v3] [] s36 Q))))) ∧ (v3 = 9 → fb_V E fb_Mo_arrays 0 [.inr 5, .inl v1, .inl v2, .inr 999, .inr 999, .inr 999, .inr 999, .inr 999] [] (fb_sg (fb_sm σ 50 v2 (σ.1 173)) 181 0) (fun _ s38 => fb_V E fb_Mo_layOut 184 [.inr 5, .inl v1, .inl v2, .inl v3] [] s38 Q)))) ∧ (¬ 6 < v3 → fb_V E fb_Mo_arithmetic 0 [.inr 5, .inl v1, .inl v2, .inr 999, .inr 999, .inr 999, .inr 999, .inr 999, .inr 999] [] (fb_sg (fb_sm σ 50 v2 (σ.1 173)) 181 0) (fun _ s40 => fb_V E fb_Mo_layOut 184 [.inr 5, .inl v1, .inl v2, .inl v3] [] s40 Q)))))) : fb_V E fb_Mo_layOut 61 [.inr 5, .inl v1, .inl v2, .inl v3] [] σ Q := by
  refine fb_aload_n dd_Mo_layOut_61 rfl (by decide) (fb_getR 5 16 dd_Mo_layOut_62 rfl rfl rfl (by decide) lk_Mo_41 (fb_iload_n dd_Mo_layOut_65 rfl (fb_aload_n dd_Mo_layOut_66 rfl (by decide) (fb_getI (x := σ.1 173) 5 13 dd_Mo_layOut_67 rfl rfl rfl (by decide) lk_Mo_109 rfl ?_))))
  obtain ⟨q1, h⟩ := h
  refine fb_ist dd_Mo_layOut_70 rfl q1 (fb_aload_n dd_Mo_layOut_71 rfl (by decide) (fb_iconst dd_Mo_layOut_72 (fb_putI 5 21 dd_Mo_layOut_73 rfl rfl rfl (by decide) rfl (by decide +kernel) lk_Mo_116 (fb_iload_n dd_Mo_layOut_76 rfl (fb_iconst dd_Mo_layOut_77 ?_)))))
  obtain ⟨q2, h⟩ := h
  refine fb_icmp_lt (tgt := 96) dd_Mo_layOut_78 rfl q2 (by decide) (fun hc => ?_) (fun hc => ?_)
  · replace h := h.1 hc
    refine fb_iload_n dd_Mo_layOut_96 rfl (fb_bipush dd_Mo_layOut_97 (by decide) ?_)
    refine fb_icmp_eq (tgt := 108) dd_Mo_layOut_99 rfl q2 (by decide) (fun hc => ?_) (fun hc => ?_)
    · replace h := h.1 hc
      refine fb_aload_n dd_Mo_layOut_108 rfl (by decide) (fb_iload_n dd_Mo_layOut_109 rfl (fb_iload_n dd_Mo_layOut_110 rfl ?_))
      refine fb_callVv (z := fb_Mo_arrays) (k := 5) (vs := [.inl v1, .inl v2]) (st := []) dd_Mo_layOut_111 vw_Mo_154 (by decide) rfl rfl rfl (np := 2) (by decide +kernel) rfl rfl rfl rfl rfl (fb_mono h (fun r3 s4 h => ?_))
      refine fb_goto (tgt := 184) dd_Mo_layOut_114 rfl ?_
      exact h
    · replace h := h.2 hc
      refine fb_iload_n dd_Mo_layOut_102 rfl (fb_bipush dd_Mo_layOut_103 (by decide) ?_)
      refine fb_icmp_ne (tgt := 117) dd_Mo_layOut_105 rfl q2 (by decide) (fun hc => ?_) (fun hc => ?_)
      · replace h := h.1 hc
        refine fb_iload_n dd_Mo_layOut_117 rfl (fb_bipush dd_Mo_layOut_118 (by decide) ?_)
        refine fb_icmp_ne (tgt := 147) dd_Mo_layOut_120 rfl q2 (by decide) (fun hc => ?_) (fun hc => ?_)
        · replace h := h.1 hc
          refine fb_iload_n dd_Mo_layOut_147 rfl ?_
          refine fb_callSi (z := fb_Mo_branches) (vs := [.inl v3]) (st := []) dd_Mo_layOut_148 sw_Mo_95 (by decide) ⟨_, rfl⟩ (np := 1) (by decide +kernel) rfl rfl rfl rfl rfl (fb_mono h (fun r5 s6 h => ?_))
          obtain ⟨q7, h⟩ := h
          refine fb_if_eq (tgt := 163) dd_Mo_layOut_151 rfl q7 (fun hc => ?_) (fun hc => ?_)
          · replace h := h.1 hc
            refine fb_iload_n dd_Mo_layOut_163 rfl (fb_bipush dd_Mo_layOut_164 (by decide) ?_)
            refine fb_icmp_ne (tgt := 178) dd_Mo_layOut_166 rfl q2 (by decide) (fun hc => ?_) (fun hc => ?_)
            · replace h := h.1 hc
              refine fb_aload_n dd_Mo_layOut_178 rfl (by decide) (fb_iload_n dd_Mo_layOut_179 rfl (fb_iload_n dd_Mo_layOut_180 rfl ?_))
              refine fb_callVv (z := fb_Mo_others) (k := 5) (vs := [.inl v1, .inl v2]) (st := []) dd_Mo_layOut_181 vw_Mo_163 (by decide) rfl rfl rfl (np := 2) (by decide +kernel) rfl rfl rfl rfl rfl (fb_mono h (fun r8 s9 h => ?_))
              exact h
            · replace h := h.2 hc
              refine fb_aload_n dd_Mo_layOut_169 rfl (by decide) (fb_iload_n dd_Mo_layOut_170 rfl (fb_iload_n dd_Mo_layOut_171 rfl ?_))
              refine fb_callVv (z := fb_Mo_call) (k := 5) (vs := [.inl v1, .inl v2]) (st := []) dd_Mo_layOut_172 vw_Mo_160 (by decide) rfl rfl rfl (np := 2) (by decide +kernel) rfl rfl rfl rfl rfl (fb_mono h (fun r10 s11 h => ?_))
              refine fb_goto (tgt := 184) dd_Mo_layOut_175 rfl ?_
              exact h
          · replace h := h.2 hc
            refine fb_aload_n dd_Mo_layOut_154 rfl (by decide) (fb_iload_n dd_Mo_layOut_155 rfl (fb_iload_n dd_Mo_layOut_156 rfl ?_))
            refine fb_callVv (z := fb_Mo_tests) (k := 5) (vs := [.inl v1, .inl v2]) (st := []) dd_Mo_layOut_157 vw_Mo_157 (by decide) rfl rfl rfl (np := 2) (by decide +kernel) rfl rfl rfl rfl rfl (fb_mono h (fun r12 s13 h => ?_))
            refine fb_goto (tgt := 184) dd_Mo_layOut_160 rfl ?_
            exact h
        · replace h := h.2 hc
          refine fb_aload_n dd_Mo_layOut_123 rfl (by decide) (fb_bipush dd_Mo_layOut_124 (by decide) (fb_aload_n dd_Mo_layOut_126 rfl (by decide) (fb_getR 5 16 dd_Mo_layOut_127 rfl rfl rfl (by decide) lk_Mo_41 (fb_bipush dd_Mo_layOut_130 (by decide) (fb_iload_n dd_Mo_layOut_132 rfl (fb_imul dd_Mo_layOut_133 (fb_aload_n dd_Mo_layOut_134 rfl (by decide) ?_)))))))
          refine fb_iload_n dd_Mo_layOut_135 rfl ?_
          refine fb_callVi (z := fb_Mo_goal) (k := 5) (vs := [.inl v2]) (st := [.inl (24 * v1), .inr 50, .inl 18, .inr 5]) dd_Mo_layOut_136 vw_Mo_98 (by decide) ⟨_, rfl⟩ rfl rfl (np := 1) (by decide +kernel) rfl rfl rfl rfl rfl (fb_mono h (fun r14 s15 h => ?_))
          refine fb_iadd dd_Mo_layOut_139 ?_
          obtain ⟨q16, h⟩ := h
          refine fb_ild (x := s15.2 50 ((24 * v1) + r14)) dd_Mo_layOut_140 rfl q16 rfl ?_
          refine fb_callVv (z := fb_Mo_to) (k := 5) (vs := [.inl 18, .inl (s15.2 50 ((24 * v1) + r14))]) (st := []) dd_Mo_layOut_141 vw_Mo_129 (by decide) rfl rfl rfl (np := 2) (by decide +kernel) rfl rfl rfl rfl rfl (fb_mono h (fun r17 s18 h => ?_))
          refine fb_goto (tgt := 184) dd_Mo_layOut_144 rfl ?_
          exact h
      · replace h := h.2 hc
        refine fb_aload_n dd_Mo_layOut_108 rfl (by decide) (fb_iload_n dd_Mo_layOut_109 rfl (fb_iload_n dd_Mo_layOut_110 rfl ?_))
        refine fb_callVv (z := fb_Mo_arrays) (k := 5) (vs := [.inl v1, .inl v2]) (st := []) dd_Mo_layOut_111 vw_Mo_154 (by decide) rfl rfl rfl (np := 2) (by decide +kernel) rfl rfl rfl rfl rfl (fb_mono h (fun r19 s20 h => ?_))
        refine fb_goto (tgt := 184) dd_Mo_layOut_114 rfl ?_
        exact h
  · replace h := h.2 hc
    refine fb_iload_n dd_Mo_layOut_81 rfl (fb_bipush dd_Mo_layOut_82 (by decide) ?_)
    refine fb_icmp_gt (tgt := 96) dd_Mo_layOut_84 rfl q2 (by decide) (fun hc => ?_) (fun hc => ?_)
    · replace h := h.1 hc
      refine fb_iload_n dd_Mo_layOut_96 rfl (fb_bipush dd_Mo_layOut_97 (by decide) ?_)
      refine fb_icmp_eq (tgt := 108) dd_Mo_layOut_99 rfl q2 (by decide) (fun hc => ?_) (fun hc => ?_)
      · replace h := h.1 hc
        refine fb_aload_n dd_Mo_layOut_108 rfl (by decide) (fb_iload_n dd_Mo_layOut_109 rfl (fb_iload_n dd_Mo_layOut_110 rfl ?_))
        refine fb_callVv (z := fb_Mo_arrays) (k := 5) (vs := [.inl v1, .inl v2]) (st := []) dd_Mo_layOut_111 vw_Mo_154 (by decide) rfl rfl rfl (np := 2) (by decide +kernel) rfl rfl rfl rfl rfl (fb_mono h (fun r21 s22 h => ?_))
        refine fb_goto (tgt := 184) dd_Mo_layOut_114 rfl ?_
        exact h
      · replace h := h.2 hc
        refine fb_iload_n dd_Mo_layOut_102 rfl (fb_bipush dd_Mo_layOut_103 (by decide) ?_)
        refine fb_icmp_ne (tgt := 117) dd_Mo_layOut_105 rfl q2 (by decide) (fun hc => ?_) (fun hc => ?_)
        · replace h := h.1 hc
          refine fb_iload_n dd_Mo_layOut_117 rfl (fb_bipush dd_Mo_layOut_118 (by decide) ?_)
          refine fb_icmp_ne (tgt := 147) dd_Mo_layOut_120 rfl q2 (by decide) (fun hc => ?_) (fun hc => ?_)
          · replace h := h.1 hc
            refine fb_iload_n dd_Mo_layOut_147 rfl ?_
            refine fb_callSi (z := fb_Mo_branches) (vs := [.inl v3]) (st := []) dd_Mo_layOut_148 sw_Mo_95 (by decide) ⟨_, rfl⟩ (np := 1) (by decide +kernel) rfl rfl rfl rfl rfl (fb_mono h (fun r23 s24 h => ?_))
            obtain ⟨q25, h⟩ := h
            refine fb_if_eq (tgt := 163) dd_Mo_layOut_151 rfl q25 (fun hc => ?_) (fun hc => ?_)
            · replace h := h.1 hc
              refine fb_iload_n dd_Mo_layOut_163 rfl (fb_bipush dd_Mo_layOut_164 (by decide) ?_)
              refine fb_icmp_ne (tgt := 178) dd_Mo_layOut_166 rfl q2 (by decide) (fun hc => ?_) (fun hc => ?_)
              · replace h := h.1 hc
                refine fb_aload_n dd_Mo_layOut_178 rfl (by decide) (fb_iload_n dd_Mo_layOut_179 rfl (fb_iload_n dd_Mo_layOut_180 rfl ?_))
                refine fb_callVv (z := fb_Mo_others) (k := 5) (vs := [.inl v1, .inl v2]) (st := []) dd_Mo_layOut_181 vw_Mo_163 (by decide) rfl rfl rfl (np := 2) (by decide +kernel) rfl rfl rfl rfl rfl (fb_mono h (fun r26 s27 h => ?_))
                exact h
              · replace h := h.2 hc
                refine fb_aload_n dd_Mo_layOut_169 rfl (by decide) (fb_iload_n dd_Mo_layOut_170 rfl (fb_iload_n dd_Mo_layOut_171 rfl ?_))
                refine fb_callVv (z := fb_Mo_call) (k := 5) (vs := [.inl v1, .inl v2]) (st := []) dd_Mo_layOut_172 vw_Mo_160 (by decide) rfl rfl rfl (np := 2) (by decide +kernel) rfl rfl rfl rfl rfl (fb_mono h (fun r28 s29 h => ?_))
                refine fb_goto (tgt := 184) dd_Mo_layOut_175 rfl ?_
                exact h
            · replace h := h.2 hc
              refine fb_aload_n dd_Mo_layOut_154 rfl (by decide) (fb_iload_n dd_Mo_layOut_155 rfl (fb_iload_n dd_Mo_layOut_156 rfl ?_))
              refine fb_callVv (z := fb_Mo_tests) (k := 5) (vs := [.inl v1, .inl v2]) (st := []) dd_Mo_layOut_157 vw_Mo_157 (by decide) rfl rfl rfl (np := 2) (by decide +kernel) rfl rfl rfl rfl rfl (fb_mono h (fun r30 s31 h => ?_))
              refine fb_goto (tgt := 184) dd_Mo_layOut_160 rfl ?_
              exact h
          · replace h := h.2 hc
            refine fb_aload_n dd_Mo_layOut_123 rfl (by decide) (fb_bipush dd_Mo_layOut_124 (by decide) (fb_aload_n dd_Mo_layOut_126 rfl (by decide) (fb_getR 5 16 dd_Mo_layOut_127 rfl rfl rfl (by decide) lk_Mo_41 (fb_bipush dd_Mo_layOut_130 (by decide) (fb_iload_n dd_Mo_layOut_132 rfl (fb_imul dd_Mo_layOut_133 (fb_aload_n dd_Mo_layOut_134 rfl (by decide) ?_)))))))
            refine fb_iload_n dd_Mo_layOut_135 rfl ?_
            refine fb_callVi (z := fb_Mo_goal) (k := 5) (vs := [.inl v2]) (st := [.inl (24 * v1), .inr 50, .inl 18, .inr 5]) dd_Mo_layOut_136 vw_Mo_98 (by decide) ⟨_, rfl⟩ rfl rfl (np := 1) (by decide +kernel) rfl rfl rfl rfl rfl (fb_mono h (fun r32 s33 h => ?_))
            refine fb_iadd dd_Mo_layOut_139 ?_
            obtain ⟨q34, h⟩ := h
            refine fb_ild (x := s33.2 50 ((24 * v1) + r32)) dd_Mo_layOut_140 rfl q34 rfl ?_
            refine fb_callVv (z := fb_Mo_to) (k := 5) (vs := [.inl 18, .inl (s33.2 50 ((24 * v1) + r32))]) (st := []) dd_Mo_layOut_141 vw_Mo_129 (by decide) rfl rfl rfl (np := 2) (by decide +kernel) rfl rfl rfl rfl rfl (fb_mono h (fun r35 s36 h => ?_))
            refine fb_goto (tgt := 184) dd_Mo_layOut_144 rfl ?_
            exact h
        · replace h := h.2 hc
          refine fb_aload_n dd_Mo_layOut_108 rfl (by decide) (fb_iload_n dd_Mo_layOut_109 rfl (fb_iload_n dd_Mo_layOut_110 rfl ?_))
          refine fb_callVv (z := fb_Mo_arrays) (k := 5) (vs := [.inl v1, .inl v2]) (st := []) dd_Mo_layOut_111 vw_Mo_154 (by decide) rfl rfl rfl (np := 2) (by decide +kernel) rfl rfl rfl rfl rfl (fb_mono h (fun r37 s38 h => ?_))
          refine fb_goto (tgt := 184) dd_Mo_layOut_114 rfl ?_
          exact h
    · replace h := h.2 hc
      refine fb_aload_n dd_Mo_layOut_87 rfl (by decide) (fb_iload_n dd_Mo_layOut_88 rfl (fb_iload_n dd_Mo_layOut_89 rfl ?_))
      refine fb_callVv (z := fb_Mo_arithmetic) (k := 5) (vs := [.inl v1, .inl v2]) (st := []) dd_Mo_layOut_90 vw_Mo_151 (by decide) rfl rfl rfl (np := 2) (by decide +kernel) rfl rfl rfl rfl rfl (fb_mono h (fun r39 s40 h => ?_))
      refine fb_goto (tgt := 184) dd_Mo_layOut_93 rfl ?_
      exact h
theorem Mo_layOut_b184 {E : fb_E} {σ : fb_S} {Q : Int → fb_S → Prop} (v1 v2 v3 : Int) (h : (-2147483648 ≤ v3 ∧ v3 < 2147483648) ∧ ((v3 = 13 → fb_V E fb_Mo_layOut 25 [.inr 5, .inl v1, .inl (v2 + 1), .inr 999] [] σ Q) ∧ (¬ v3 = 13 → (0 ≤ v2 ∧ v2 < 144) ∧ (fb_V E fb_Mo_layOut 25 [.inr 5, .inl v1, .inl (v2 + 1), .inr 999] [] (fb_sm σ 53 v2 (σ.1 181)) Q)))) : fb_V E fb_Mo_layOut 184 [.inr 5, .inl v1, .inl v2, .inl v3] [] σ Q := by
  refine fb_iload_n dd_Mo_layOut_184 rfl (fb_bipush dd_Mo_layOut_185 (by decide) ?_)
  obtain ⟨q1, h⟩ := h
  refine fb_icmp_eq (tgt := 200) dd_Mo_layOut_187 rfl q1 (by decide) (fun hc => ?_) (fun hc => ?_)
  · replace h := h.1 hc
    refine fb_iinc dd_Mo_layOut_200 rfl rfl rfl (fb_goto (tgt := 25) dd_Mo_layOut_203 rfl ?_)
    exact fb_drop (fb_sub_k (fb_sub_k (fb_sub_k (fb_sub_d fb_sub_0)))) h
  · replace h := h.2 hc
    refine fb_aload_n dd_Mo_layOut_190 rfl (by decide) (fb_getR 5 19 dd_Mo_layOut_191 rfl rfl rfl (by decide) lk_Mo_50 (fb_iload_n dd_Mo_layOut_194 rfl (fb_aload_n dd_Mo_layOut_195 rfl (by decide) (fb_getI (x := σ.1 181) 5 21 dd_Mo_layOut_196 rfl rfl rfl (by decide) lk_Mo_116 rfl ?_))))
    obtain ⟨q2, h⟩ := h
    refine fb_ist dd_Mo_layOut_199 rfl q2 (fb_iinc dd_Mo_layOut_200 rfl rfl rfl (fb_goto (tgt := 25) dd_Mo_layOut_203 rfl ?_))
    exact fb_drop (fb_sub_k (fb_sub_k (fb_sub_k (fb_sub_d fb_sub_0)))) h

theorem Mo_branchAt_b0 {E : fb_E} {σ : fb_S} {Q : Int → fb_S → Prop} (v1 v2 : Int) (h : (0 ≤ v1 ∧ v1 < 6) ∧ ((-2147483648 ≤ (v2 + 1) ∧ (v2 + 1) < 2147483648) ∧ ((-2147483648 ≤ ((24 * v1) + (σ.2 41 v1)) ∧ ((24 * v1) + (σ.2 41 v1)) < 2147483648) ∧ ((((24 * v1) + (σ.2 41 v1)) ≤ (v2 + 1) → (-2147483648 ≤ (v1 + 1) ∧ (v1 + 1) < 2147483648) ∧ ((-2147483648 ≤ (σ.1 160) ∧ (σ.1 160) < 2147483648) ∧ (((σ.1 160) ≤ (v1 + 1) → (0 ≤ v2 ∧ v2 < 144) ∧ ((-2147483648 ≤ (σ.2 52 v2) ∧ (σ.2 52 v2) < 2147483648) ∧ (((σ.2 52 v2) = 0 → Q ((σ.1 173) - 2) σ) ∧ (¬ (σ.2 52 v2) = 0 → Q ((σ.1 173) - 5) σ)))) ∧ (¬ (σ.1 160) ≤ (v1 + 1) → (0 ≤ ((24 * v1) + 24) ∧ ((24 * v1) + 24) < 144) ∧ ((0 ≤ v2 ∧ v2 < 144) ∧ ((-2147483648 ≤ (σ.2 52 v2) ∧ (σ.2 52 v2) < 2147483648) ∧ (((σ.2 52 v2) = 0 → Q ((σ.2 50 ((24 * v1) + 24)) - 2) σ) ∧ (¬ (σ.2 52 v2) = 0 → Q ((σ.2 50 ((24 * v1) + 24)) - 5) σ)))))))) ∧ (¬ ((24 * v1) + (σ.2 41 v1)) ≤ (v2 + 1) → (0 ≤ (v2 + 1) ∧ (v2 + 1) < 144) ∧ ((0 ≤ v2 ∧ v2 < 144) ∧ ((-2147483648 ≤ (σ.2 52 v2) ∧ (σ.2 52 v2) < 2147483648) ∧ (((σ.2 52 v2) = 0 → Q ((σ.2 50 (v2 + 1)) - 2) σ) ∧ (¬ (σ.2 52 v2) = 0 → Q ((σ.2 50 (v2 + 1)) - 5) σ))))))))) : fb_V E fb_Mo_branchAt 0 [.inr 5, .inl v1, .inl v2, .inr 999] [] σ Q := by
  refine fb_iload_n dd_Mo_branchAt_0 rfl (fb_iconst dd_Mo_branchAt_1 (fb_iadd dd_Mo_branchAt_2 (fb_bipush dd_Mo_branchAt_3 (by decide) (fb_iload_n dd_Mo_branchAt_5 rfl (fb_imul dd_Mo_branchAt_6 (fb_aload_n dd_Mo_branchAt_7 rfl (by decide) (fb_getR 5 3 dd_Mo_branchAt_8 rfl rfl rfl (by decide) lk_Mo_13 ?_)))))))
  refine fb_iload_n dd_Mo_branchAt_11 rfl ?_
  obtain ⟨q1, h⟩ := h
  refine fb_ild (x := σ.2 41 v1) dd_Mo_branchAt_12 rfl q1 rfl (fb_iadd dd_Mo_branchAt_13 ?_)
  obtain ⟨q2, h⟩ := h
  obtain ⟨q3, h⟩ := h
  refine fb_icmp_ge (tgt := 28) dd_Mo_branchAt_14 rfl q2 q3 (fun hc => ?_) (fun hc => ?_)
  · replace h := h.1 hc
    refine fb_iload_n dd_Mo_branchAt_28 rfl (fb_iconst dd_Mo_branchAt_29 (fb_iadd dd_Mo_branchAt_30 (fb_aload_n dd_Mo_branchAt_31 rfl (by decide) (fb_getI (x := σ.1 160) 5 0 dd_Mo_branchAt_32 rfl rfl rfl (by decide) lk_Mo_72 rfl ?_))))
    obtain ⟨q4, h⟩ := h
    obtain ⟨q5, h⟩ := h
    refine fb_icmp_ge (tgt := 53) dd_Mo_branchAt_35 rfl q4 q5 (fun hc => ?_) (fun hc => ?_)
    · replace h := h.1 hc
      refine fb_aload_n dd_Mo_branchAt_53 rfl (by decide) (fb_getI (x := σ.1 173) 5 13 dd_Mo_branchAt_54 rfl rfl rfl (by decide) lk_Mo_109 rfl (fb_istore_n dd_Mo_branchAt_57 rfl rfl rfl (fb_aload_n dd_Mo_branchAt_58 rfl (by decide) (fb_getR 5 18 dd_Mo_branchAt_59 rfl rfl rfl (by decide) lk_Mo_47 (fb_iload_n dd_Mo_branchAt_62 rfl ?_)))))
      obtain ⟨q6, h⟩ := h
      refine fb_zld (x := σ.2 52 v2) dd_Mo_branchAt_63 rfl q6 rfl ?_
      obtain ⟨q7, h⟩ := h
      refine fb_if_eq (tgt := 73) dd_Mo_branchAt_64 rfl q7 (fun hc => ?_) (fun hc => ?_)
      · replace h := h.1 hc
        refine fb_iload_n dd_Mo_branchAt_73 rfl (fb_iconst dd_Mo_branchAt_74 (fb_isub dd_Mo_branchAt_75 ?_))
        exact fb_iret dd_Mo_branchAt_76 rfl h
      · replace h := h.2 hc
        refine fb_iload_n dd_Mo_branchAt_67 rfl (fb_iconst dd_Mo_branchAt_68 (fb_isub dd_Mo_branchAt_69 (fb_goto (tgt := 76) dd_Mo_branchAt_70 rfl ?_)))
        exact fb_iret dd_Mo_branchAt_76 rfl h
    · replace h := h.2 hc
      refine fb_aload_n dd_Mo_branchAt_38 rfl (by decide) (fb_getR 5 16 dd_Mo_branchAt_39 rfl rfl rfl (by decide) lk_Mo_41 (fb_bipush dd_Mo_branchAt_42 (by decide) (fb_iload_n dd_Mo_branchAt_44 rfl (fb_imul dd_Mo_branchAt_45 (fb_bipush dd_Mo_branchAt_46 (by decide) (fb_iadd dd_Mo_branchAt_48 ?_))))))
      obtain ⟨q8, h⟩ := h
      refine fb_ild (x := σ.2 50 ((24 * v1) + 24)) dd_Mo_branchAt_49 rfl q8 rfl (fb_goto (tgt := 57) dd_Mo_branchAt_50 rfl (fb_istore_n dd_Mo_branchAt_57 rfl rfl rfl (fb_aload_n dd_Mo_branchAt_58 rfl (by decide) (fb_getR 5 18 dd_Mo_branchAt_59 rfl rfl rfl (by decide) lk_Mo_47 (fb_iload_n dd_Mo_branchAt_62 rfl ?_)))))
      obtain ⟨q9, h⟩ := h
      refine fb_zld (x := σ.2 52 v2) dd_Mo_branchAt_63 rfl q9 rfl ?_
      obtain ⟨q10, h⟩ := h
      refine fb_if_eq (tgt := 73) dd_Mo_branchAt_64 rfl q10 (fun hc => ?_) (fun hc => ?_)
      · replace h := h.1 hc
        refine fb_iload_n dd_Mo_branchAt_73 rfl (fb_iconst dd_Mo_branchAt_74 (fb_isub dd_Mo_branchAt_75 ?_))
        exact fb_iret dd_Mo_branchAt_76 rfl h
      · replace h := h.2 hc
        refine fb_iload_n dd_Mo_branchAt_67 rfl (fb_iconst dd_Mo_branchAt_68 (fb_isub dd_Mo_branchAt_69 (fb_goto (tgt := 76) dd_Mo_branchAt_70 rfl ?_)))
        exact fb_iret dd_Mo_branchAt_76 rfl h
  · replace h := h.2 hc
    refine fb_aload_n dd_Mo_branchAt_17 rfl (by decide) (fb_getR 5 16 dd_Mo_branchAt_18 rfl rfl rfl (by decide) lk_Mo_41 (fb_iload_n dd_Mo_branchAt_21 rfl (fb_iconst dd_Mo_branchAt_22 (fb_iadd dd_Mo_branchAt_23 ?_))))
    obtain ⟨q11, h⟩ := h
    refine fb_ild (x := σ.2 50 (v2 + 1)) dd_Mo_branchAt_24 rfl q11 rfl (fb_goto (tgt := 57) dd_Mo_branchAt_25 rfl (fb_istore_n dd_Mo_branchAt_57 rfl rfl rfl (fb_aload_n dd_Mo_branchAt_58 rfl (by decide) (fb_getR 5 18 dd_Mo_branchAt_59 rfl rfl rfl (by decide) lk_Mo_47 (fb_iload_n dd_Mo_branchAt_62 rfl ?_)))))
    obtain ⟨q12, h⟩ := h
    refine fb_zld (x := σ.2 52 v2) dd_Mo_branchAt_63 rfl q12 rfl ?_
    obtain ⟨q13, h⟩ := h
    refine fb_if_eq (tgt := 73) dd_Mo_branchAt_64 rfl q13 (fun hc => ?_) (fun hc => ?_)
    · replace h := h.1 hc
      refine fb_iload_n dd_Mo_branchAt_73 rfl (fb_iconst dd_Mo_branchAt_74 (fb_isub dd_Mo_branchAt_75 ?_))
      exact fb_iret dd_Mo_branchAt_76 rfl h
    · replace h := h.2 hc
      refine fb_iload_n dd_Mo_branchAt_67 rfl (fb_iconst dd_Mo_branchAt_68 (fb_isub dd_Mo_branchAt_69 (fb_goto (tgt := 76) dd_Mo_branchAt_70 rfl ?_)))
      exact fb_iret dd_Mo_branchAt_76 rfl h

theorem Mo_stretched_b0 {E : fb_E} {σ : fb_S} {Q : Int → fb_S → Prop} (h : fb_V E fb_Mo_stretched 4 [.inr 5, .inl 0, .inl 0, .inr 999, .inr 999] [] σ Q) : fb_V E fb_Mo_stretched 0 [.inr 5, .inr 999, .inr 999, .inr 999, .inr 999] [] σ Q := by
  refine fb_iconst dd_Mo_stretched_0 (fb_istore_n dd_Mo_stretched_1 rfl rfl rfl (fb_iconst dd_Mo_stretched_2 (fb_istore_n dd_Mo_stretched_3 rfl rfl rfl ?_)))
  exact h
theorem Mo_stretched_b4 {E : fb_E} {σ : fb_S} {Q : Int → fb_S → Prop} (v1 v2 : Int) (h : (-2147483648 ≤ v2 ∧ v2 < 2147483648) ∧ ((-2147483648 ≤ (σ.1 160) ∧ (σ.1 160) < 2147483648) ∧ (((σ.1 160) ≤ v2 → (v1 = 0 ∨ v1 = 1) ∧ (Q v1 σ)) ∧ (¬ (σ.1 160) ≤ v2 → fb_V E fb_Mo_stretched 17 [.inr 5, .inl v1, .inl v2, .inl (24 * v2), .inr 999] [] σ Q)))) : fb_V E fb_Mo_stretched 4 [.inr 5, .inl v1, .inl v2, .inr 999, .inr 999] [] σ Q := by
  refine fb_iload_n dd_Mo_stretched_4 rfl (fb_aload_n dd_Mo_stretched_5 rfl (by decide) (fb_getI (x := σ.1 160) 5 0 dd_Mo_stretched_6 rfl rfl rfl (by decide) lk_Mo_72 rfl ?_))
  obtain ⟨q1, h⟩ := h
  obtain ⟨q2, h⟩ := h
  refine fb_icmp_ge (tgt := 120) dd_Mo_stretched_9 rfl q1 q2 (fun hc => ?_) (fun hc => ?_)
  · replace h := h.1 hc
    refine fb_iload_n dd_Mo_stretched_120 rfl ?_
    obtain ⟨q3, h⟩ := h
    exact fb_zret dd_Mo_stretched_121 rfl q3 h
  · replace h := h.2 hc
    refine fb_bipush dd_Mo_stretched_12 (by decide) (fb_iload_n dd_Mo_stretched_14 rfl (fb_imul dd_Mo_stretched_15 (fb_istore_n dd_Mo_stretched_16 rfl rfl rfl ?_)))
    exact h
theorem Mo_stretched_b17 {E : fb_E} {σ : fb_S} {Q : Int → fb_S → Prop} (v1 v2 v3 : Int) (h : (0 ≤ v2 ∧ v2 < 6) ∧ ((-2147483648 ≤ v3 ∧ v3 < 2147483648) ∧ ((-2147483648 ≤ ((24 * v2) + (σ.2 41 v2)) ∧ ((24 * v2) + (σ.2 41 v2)) < 2147483648) ∧ ((((24 * v2) + (σ.2 41 v2)) ≤ v3 → fb_V E fb_Mo_stretched 4 [.inr 5, .inl v1, .inl (v2 + 1), .inr 999, .inr 999] [] σ Q) ∧ (¬ ((24 * v2) + (σ.2 41 v2)) ≤ v3 → (0 ≤ v3 ∧ v3 < 144) ∧ (fb_V E fb_Mo_branches 0 [.inl (σ.2 43 v3)] [] σ (fun r5 s6 => (-2147483648 ≤ r5 ∧ r5 < 2147483648) ∧ ((r5 = 0 → fb_V E fb_Mo_stretched 17 [.inr 5, .inl v1, .inl v2, .inl (v3 + 1), .inr 999] [] s6 Q) ∧ (¬ r5 = 0 → (-2147483648 ≤ (s6.2 52 v3) ∧ (s6.2 52 v3) < 2147483648) ∧ (((s6.2 52 v3) = 0 → fb_V E fb_Mo_goal 0 [.inr 5, .inl v3] [] s6 (fun r9 s10 => (0 ≤ ((24 * v2) + r9) ∧ ((24 * v2) + r9) < 144) ∧ (fb_V E fb_Mo_branchAt 0 [.inr 5, .inl v2, .inl v3, .inr 999] [] s10 (fun r12 s13 => (-2147483648 ≤ (((s10.2 50 ((24 * v2) + r9)) - r12) - 2) ∧ (((s10.2 50 ((24 * v2) + r9)) - r12) - 2) < 2147483648) ∧ (((((s10.2 50 ((24 * v2) + r9)) - r12) - 2) < (-128) → fb_V E fb_Mo_stretched 17 [.inr 5, .inl 1, .inl v2, .inl (v3 + 1), .inr 999] [] (fb_sm s13 52 v3 1) Q) ∧ (¬ (((s10.2 50 ((24 * v2) + r9)) - r12) - 2) < (-128) → (127 < (((s10.2 50 ((24 * v2) + r9)) - r12) - 2) → fb_V E fb_Mo_stretched 17 [.inr 5, .inl 1, .inl v2, .inl (v3 + 1), .inr 999] [] (fb_sm s13 52 v3 1) Q) ∧ (¬ 127 < (((s10.2 50 ((24 * v2) + r9)) - r12) - 2) → fb_V E fb_Mo_stretched 17 [.inr 5, .inl v1, .inl v2, .inl (v3 + 1), .inr 999] [] s13 Q))))))) ∧ (¬ (s6.2 52 v3) = 0 → fb_V E fb_Mo_stretched 17 [.inr 5, .inl v1, .inl v2, .inl (v3 + 1), .inr 999] [] s6 Q))))))))))) : fb_V E fb_Mo_stretched 17 [.inr 5, .inl v1, .inl v2, .inl v3, .inr 999] [] σ Q := by
  refine fb_iload_n dd_Mo_stretched_17 rfl (fb_bipush dd_Mo_stretched_18 (by decide) (fb_iload_n dd_Mo_stretched_20 rfl (fb_imul dd_Mo_stretched_21 (fb_aload_n dd_Mo_stretched_22 rfl (by decide) (fb_getR 5 3 dd_Mo_stretched_23 rfl rfl rfl (by decide) lk_Mo_13 (fb_iload_n dd_Mo_stretched_26 rfl ?_))))))
  obtain ⟨q1, h⟩ := h
  refine fb_ild (x := σ.2 41 v2) dd_Mo_stretched_27 rfl q1 rfl (fb_iadd dd_Mo_stretched_28 ?_)
  obtain ⟨q2, h⟩ := h
  obtain ⟨q3, h⟩ := h
  refine fb_icmp_ge (tgt := 114) dd_Mo_stretched_29 rfl q2 q3 (fun hc => ?_) (fun hc => ?_)
  · replace h := h.1 hc
    refine fb_iinc dd_Mo_stretched_114 rfl rfl rfl (fb_goto (tgt := 4) dd_Mo_stretched_117 rfl ?_)
    exact fb_drop (fb_sub_k (fb_sub_k (fb_sub_k (fb_sub_d (fb_sub_k fb_sub_0))))) h
  · replace h := h.2 hc
    refine fb_aload_n dd_Mo_stretched_32 rfl (by decide) (fb_getR 5 5 dd_Mo_stretched_33 rfl rfl rfl (by decide) lk_Mo_19 (fb_iload_n dd_Mo_stretched_36 rfl ?_))
    obtain ⟨q4, h⟩ := h
    refine fb_ild (x := σ.2 43 v3) dd_Mo_stretched_37 rfl q4 rfl ?_
    refine fb_callSi (z := fb_Mo_branches) (vs := [.inl (σ.2 43 v3)]) (st := []) dd_Mo_stretched_38 sw_Mo_95 (by decide) ⟨_, rfl⟩ (np := 1) (by decide +kernel) rfl rfl rfl rfl rfl (fb_mono h (fun r5 s6 h => ?_))
    obtain ⟨q7, h⟩ := h
    refine fb_if_eq (tgt := 108) dd_Mo_stretched_41 rfl q7 (fun hc => ?_) (fun hc => ?_)
    · replace h := h.1 hc
      refine fb_iinc dd_Mo_stretched_108 rfl rfl rfl (fb_goto (tgt := 17) dd_Mo_stretched_111 rfl ?_)
      exact h
    · replace h := h.2 hc
      refine fb_aload_n dd_Mo_stretched_44 rfl (by decide) (fb_getR 5 18 dd_Mo_stretched_45 rfl rfl rfl (by decide) lk_Mo_47 (fb_iload_n dd_Mo_stretched_48 rfl (fb_zld (x := s6.2 52 v3) dd_Mo_stretched_49 rfl q4 rfl ?_)))
      obtain ⟨q8, h⟩ := h
      refine fb_if_eq (tgt := 56) dd_Mo_stretched_50 rfl q8 (fun hc => ?_) (fun hc => ?_)
      · replace h := h.1 hc
        refine fb_aload_n dd_Mo_stretched_56 rfl (by decide) (fb_getR 5 16 dd_Mo_stretched_57 rfl rfl rfl (by decide) lk_Mo_41 (fb_bipush dd_Mo_stretched_60 (by decide) (fb_iload_n dd_Mo_stretched_62 rfl (fb_imul dd_Mo_stretched_63 (fb_aload_n dd_Mo_stretched_64 rfl (by decide) (fb_iload_n dd_Mo_stretched_65 rfl ?_))))))
        refine fb_callVi (z := fb_Mo_goal) (k := 5) (vs := [.inl v3]) (st := [.inl (24 * v2), .inr 50]) dd_Mo_stretched_66 vw_Mo_98 (by decide) ⟨_, rfl⟩ rfl rfl (np := 1) (by decide +kernel) rfl rfl rfl rfl rfl (fb_mono h (fun r9 s10 h => ?_))
        refine fb_iadd dd_Mo_stretched_69 ?_
        obtain ⟨q11, h⟩ := h
        refine fb_ild (x := s10.2 50 ((24 * v2) + r9)) dd_Mo_stretched_70 rfl q11 rfl (fb_aload_n dd_Mo_stretched_71 rfl (by decide) (fb_iload_n dd_Mo_stretched_72 rfl (fb_iload_n dd_Mo_stretched_73 rfl ?_)))
        refine fb_callVi (z := fb_Mo_branchAt) (k := 5) (vs := [.inl v2, .inl v3]) (st := [.inl (s10.2 50 ((24 * v2) + r9))]) dd_Mo_stretched_74 vw_Mo_166 (by decide) ⟨_, rfl⟩ rfl rfl (np := 2) (by decide +kernel) rfl rfl rfl rfl rfl (fb_mono h (fun r12 s13 h => ?_))
        refine fb_isub dd_Mo_stretched_77 (fb_iconst dd_Mo_stretched_78 (fb_isub dd_Mo_stretched_79 (fb_istore dd_Mo_stretched_80 rfl rfl rfl (fb_iload dd_Mo_stretched_82 rfl (fb_bipush dd_Mo_stretched_84 (by decide) ?_)))))
        obtain ⟨q14, h⟩ := h
        refine fb_icmp_lt (tgt := 99) dd_Mo_stretched_86 rfl q14 (by decide) (fun hc => ?_) (fun hc => ?_)
        · replace h := h.1 hc
          refine fb_aload_n dd_Mo_stretched_99 rfl (by decide) (fb_getR 5 18 dd_Mo_stretched_100 rfl rfl rfl (by decide) lk_Mo_47 (fb_iload_n dd_Mo_stretched_103 rfl (fb_iconst dd_Mo_stretched_104 (fb_zst dd_Mo_stretched_105 (by decide) rfl q4 (fb_iconst dd_Mo_stretched_106 (fb_istore_n dd_Mo_stretched_107 rfl rfl rfl (fb_iinc dd_Mo_stretched_108 rfl rfl rfl ?_)))))))
          refine fb_goto (tgt := 17) dd_Mo_stretched_111 rfl ?_
          exact fb_drop (fb_sub_k (fb_sub_k (fb_sub_k (fb_sub_k (fb_sub_d fb_sub_0))))) h
        · replace h := h.2 hc
          refine fb_iload dd_Mo_stretched_89 rfl (fb_bipush dd_Mo_stretched_91 (by decide) ?_)
          refine fb_icmp_gt (tgt := 99) dd_Mo_stretched_93 rfl q14 (by decide) (fun hc => ?_) (fun hc => ?_)
          · replace h := h.1 hc
            refine fb_aload_n dd_Mo_stretched_99 rfl (by decide) (fb_getR 5 18 dd_Mo_stretched_100 rfl rfl rfl (by decide) lk_Mo_47 (fb_iload_n dd_Mo_stretched_103 rfl (fb_iconst dd_Mo_stretched_104 (fb_zst dd_Mo_stretched_105 (by decide) rfl q4 (fb_iconst dd_Mo_stretched_106 (fb_istore_n dd_Mo_stretched_107 rfl rfl rfl (fb_iinc dd_Mo_stretched_108 rfl rfl rfl ?_)))))))
            refine fb_goto (tgt := 17) dd_Mo_stretched_111 rfl ?_
            exact fb_drop (fb_sub_k (fb_sub_k (fb_sub_k (fb_sub_k (fb_sub_d fb_sub_0))))) h
          · replace h := h.2 hc
            refine fb_goto (tgt := 108) dd_Mo_stretched_96 rfl (fb_iinc dd_Mo_stretched_108 rfl rfl rfl (fb_goto (tgt := 17) dd_Mo_stretched_111 rfl ?_))
            exact fb_drop (fb_sub_k (fb_sub_k (fb_sub_k (fb_sub_k (fb_sub_d fb_sub_0))))) h
      · replace h := h.2 hc
        refine fb_goto (tgt := 108) dd_Mo_stretched_53 rfl (fb_iinc dd_Mo_stretched_108 rfl rfl rfl (fb_goto (tgt := 17) dd_Mo_stretched_111 rfl ?_))
        exact h

theorem Mo_compile_b0 {E : fb_E} {σ : fb_S} {Q : Int → fb_S → Prop} (h : fb_V E fb_Mo_change 0 [.inr 5] [] σ (fun _ s2 => fb_V E fb_Mo_ended 0 [.inr 5, .inr 999, .inr 999] [] s2 (fun r3 s4 => (-2147483648 ≤ r3 ∧ r3 < 2147483648) ∧ ((¬ r3 = 0 → fb_V E fb_Mo_aimed 0 [.inr 5, .inr 999, .inr 999] [] s4 (fun r6 s7 => (-2147483648 ≤ r6 ∧ r6 < 2147483648) ∧ ((¬ r6 = 0 → fb_V E fb_Mo_called 0 [.inr 5, .inr 999, .inr 999] [] s7 (fun r9 s10 => (-2147483648 ≤ r9 ∧ r9 < 2147483648) ∧ ((¬ r9 = 0 → fb_V E fb_Mo_rings 0 [.inr 5, .inr 999, .inr 999, .inr 999, .inr 999, .inr 999, .inr 999, .inr 999] [] s10 (fun r12 s13 => (-2147483648 ≤ r12 ∧ r12 < 2147483648) ∧ ((r12 = 0 → fb_V E fb_Mo_framed 0 [.inr 5, .inr 999, .inr 999, .inr 999, .inr 999] [] s13 (fun r15 s16 => (-2147483648 ≤ r15 ∧ r15 < 2147483648) ∧ ((¬ r15 = 0 → fb_V E fb_Mo_compile 51 [.inr 5, .inl 0] [] s16 Q) ∧ (r15 = 0 → Q 5 s16)))) ∧ (¬ r12 = 0 → Q 4 s13)))) ∧ (r9 = 0 → Q 3 s10)))) ∧ (r6 = 0 → Q 2 s7)))) ∧ (r3 = 0 → Q 1 s4))))) : fb_V E fb_Mo_compile 0 [.inr 5, .inr 999] [] σ Q := by
  refine fb_aload_n dd_Mo_compile_0 rfl (by decide) ?_
  refine fb_callVv (z := fb_Mo_change) (k := 5) (vs := []) (st := []) dd_Mo_compile_1 vw_Mo_76 (by decide) rfl rfl rfl (np := 0) (by decide +kernel) rfl rfl rfl rfl rfl (fb_mono h (fun r1 s2 h => ?_))
  refine fb_aload_n dd_Mo_compile_4 rfl (by decide) ?_
  refine fb_callVi (z := fb_Mo_ended) (k := 5) (vs := []) (st := []) dd_Mo_compile_5 vw_Mo_169 (by decide) ⟨_, rfl⟩ rfl rfl (np := 0) (by decide +kernel) rfl rfl rfl rfl rfl (fb_mono h (fun r3 s4 h => ?_))
  obtain ⟨q5, h⟩ := h
  refine fb_if_ne (tgt := 13) dd_Mo_compile_8 rfl q5 (fun hc => ?_) (fun hc => ?_)
  · replace h := h.1 hc
    refine fb_aload_n dd_Mo_compile_13 rfl (by decide) ?_
    refine fb_callVi (z := fb_Mo_aimed) (k := 5) (vs := []) (st := []) dd_Mo_compile_14 vw_Mo_173 (by decide) ⟨_, rfl⟩ rfl rfl (np := 0) (by decide +kernel) rfl rfl rfl rfl rfl (fb_mono h (fun r6 s7 h => ?_))
    obtain ⟨q8, h⟩ := h
    refine fb_if_ne (tgt := 22) dd_Mo_compile_17 rfl q8 (fun hc => ?_) (fun hc => ?_)
    · replace h := h.1 hc
      refine fb_aload_n dd_Mo_compile_22 rfl (by decide) ?_
      refine fb_callVi (z := fb_Mo_called) (k := 5) (vs := []) (st := []) dd_Mo_compile_23 vw_Mo_176 (by decide) ⟨_, rfl⟩ rfl rfl (np := 0) (by decide +kernel) rfl rfl rfl rfl rfl (fb_mono h (fun r9 s10 h => ?_))
      obtain ⟨q11, h⟩ := h
      refine fb_if_ne (tgt := 31) dd_Mo_compile_26 rfl q11 (fun hc => ?_) (fun hc => ?_)
      · replace h := h.1 hc
        refine fb_aload_n dd_Mo_compile_31 rfl (by decide) ?_
        refine fb_callVi (z := fb_Mo_rings) (k := 5) (vs := []) (st := []) dd_Mo_compile_32 vw_Mo_179 (by decide) ⟨_, rfl⟩ rfl rfl (np := 0) (by decide +kernel) rfl rfl rfl rfl rfl (fb_mono h (fun r12 s13 h => ?_))
        obtain ⟨q14, h⟩ := h
        refine fb_if_eq (tgt := 40) dd_Mo_compile_35 rfl q14 (fun hc => ?_) (fun hc => ?_)
        · replace h := h.1 hc
          refine fb_aload_n dd_Mo_compile_40 rfl (by decide) ?_
          refine fb_callVi (z := fb_Mo_framed) (k := 5) (vs := []) (st := []) dd_Mo_compile_41 vw_Mo_182 (by decide) ⟨_, rfl⟩ rfl rfl (np := 0) (by decide +kernel) rfl rfl rfl rfl rfl (fb_mono h (fun r15 s16 h => ?_))
          obtain ⟨q17, h⟩ := h
          refine fb_if_ne (tgt := 49) dd_Mo_compile_44 rfl q17 (fun hc => ?_) (fun hc => ?_)
          · replace h := h.1 hc
            refine fb_iconst dd_Mo_compile_49 (fb_istore_n dd_Mo_compile_50 rfl rfl rfl ?_)
            exact h
          · replace h := h.2 hc
            refine fb_iconst dd_Mo_compile_47 ?_
            exact fb_iret dd_Mo_compile_48 rfl h
        · replace h := h.2 hc
          refine fb_iconst dd_Mo_compile_38 ?_
          exact fb_iret dd_Mo_compile_39 rfl h
      · replace h := h.2 hc
        refine fb_iconst dd_Mo_compile_29 ?_
        exact fb_iret dd_Mo_compile_30 rfl h
    · replace h := h.2 hc
      refine fb_iconst dd_Mo_compile_20 ?_
      exact fb_iret dd_Mo_compile_21 rfl h
  · replace h := h.2 hc
    refine fb_iconst dd_Mo_compile_11 ?_
    exact fb_iret dd_Mo_compile_12 rfl h
theorem Mo_compile_b51 {E : fb_E} {σ : fb_S} {Q : Int → fb_S → Prop} (v1 : Int) (h : (-2147483648 ≤ v1 ∧ v1 < 2147483648) ∧ ((144 ≤ v1 → fb_V E fb_Mo_layOut 0 [.inr 5, .inr 999, .inr 999, .inr 999] [] σ (fun _ s3 => fb_V E fb_Mo_compile 77 [.inr 5, .inl 0] [] s3 Q)) ∧ (¬ 144 ≤ v1 → (0 ≤ v1 ∧ v1 < 144) ∧ (fb_V E fb_Mo_compile 51 [.inr 5, .inl (v1 + 1)] [] (fb_sm σ 52 v1 0) Q)))) : fb_V E fb_Mo_compile 51 [.inr 5, .inl v1] [] σ Q := by
  refine fb_iload_n dd_Mo_compile_51 rfl (fb_sipush dd_Mo_compile_52 (by decide) ?_)
  obtain ⟨q1, h⟩ := h
  refine fb_icmp_ge (tgt := 71) dd_Mo_compile_55 rfl q1 (by decide) (fun hc => ?_) (fun hc => ?_)
  · replace h := h.1 hc
    refine fb_aload_n dd_Mo_compile_71 rfl (by decide) ?_
    refine fb_callVv (z := fb_Mo_layOut) (k := 5) (vs := []) (st := []) dd_Mo_compile_72 vw_Mo_185 (by decide) rfl rfl rfl (np := 0) (by decide +kernel) rfl rfl rfl rfl rfl (fb_mono h (fun r2 s3 h => ?_))
    refine fb_iconst dd_Mo_compile_75 (fb_istore_n dd_Mo_compile_76 rfl rfl rfl ?_)
    exact h
  · replace h := h.2 hc
    refine fb_aload_n dd_Mo_compile_58 rfl (by decide) (fb_getR 5 18 dd_Mo_compile_59 rfl rfl rfl (by decide) lk_Mo_47 (fb_iload_n dd_Mo_compile_62 rfl (fb_iconst dd_Mo_compile_63 ?_)))
    obtain ⟨q4, h⟩ := h
    refine fb_zst dd_Mo_compile_64 (by decide) rfl q4 (fb_iinc dd_Mo_compile_65 rfl rfl rfl (fb_goto (tgt := 51) dd_Mo_compile_68 rfl ?_))
    exact h
theorem Mo_compile_b77 {E : fb_E} {σ : fb_S} {Q : Int → fb_S → Prop} (v1 : Int) (h : (-2147483648 ≤ v1 ∧ v1 < 2147483648) ∧ ((62 ≤ v1 → fb_V E fb_Mo_layOut 0 [.inr 5, .inr 999, .inr 999, .inr 999] [] σ (fun _ s3 => fb_V E fb_Mo_compile 111 [.inr 5, .inl 0] [] (fb_sg s3 174 0) Q)) ∧ (¬ 62 ≤ v1 → fb_V E fb_Mo_stretched 0 [.inr 5, .inr 999, .inr 999, .inr 999, .inr 999] [] σ (fun r4 s5 => (-2147483648 ≤ r4 ∧ r4 < 2147483648) ∧ ((r4 = 0 → fb_V E fb_Mo_layOut 0 [.inr 5, .inr 999, .inr 999, .inr 999] [] s5 (fun _ s8 => fb_V E fb_Mo_compile 111 [.inr 5, .inl 0] [] (fb_sg s8 174 0) Q)) ∧ (¬ r4 = 0 → fb_V E fb_Mo_layOut 0 [.inr 5, .inr 999, .inr 999, .inr 999] [] s5 (fun _ s10 => fb_V E fb_Mo_compile 77 [.inr 5, .inl (v1 + 1)] [] s10 Q))))))) : fb_V E fb_Mo_compile 77 [.inr 5, .inl v1] [] σ Q := by
  refine fb_iload_n dd_Mo_compile_77 rfl (fb_bipush dd_Mo_compile_78 (by decide) ?_)
  obtain ⟨q1, h⟩ := h
  refine fb_icmp_ge (tgt := 100) dd_Mo_compile_80 rfl q1 (by decide) (fun hc => ?_) (fun hc => ?_)
  · replace h := h.1 hc
    refine fb_aload_n dd_Mo_compile_100 rfl (by decide) ?_
    refine fb_callVv (z := fb_Mo_layOut) (k := 5) (vs := []) (st := []) dd_Mo_compile_101 vw_Mo_185 (by decide) rfl rfl rfl (np := 0) (by decide +kernel) rfl rfl rfl rfl rfl (fb_mono h (fun r2 s3 h => ?_))
    refine fb_aload_n dd_Mo_compile_104 rfl (by decide) (fb_iconst dd_Mo_compile_105 (fb_putI 5 14 dd_Mo_compile_106 rfl rfl rfl (by decide) rfl (by decide +kernel) lk_Mo_191 (fb_iconst dd_Mo_compile_109 (fb_istore_n dd_Mo_compile_110 rfl rfl rfl ?_))))
    exact h
  · replace h := h.2 hc
    refine fb_aload_n dd_Mo_compile_83 rfl (by decide) ?_
    refine fb_callVi (z := fb_Mo_stretched) (k := 5) (vs := []) (st := []) dd_Mo_compile_84 vw_Mo_188 (by decide) ⟨_, rfl⟩ rfl rfl (np := 0) (by decide +kernel) rfl rfl rfl rfl rfl (fb_mono h (fun r4 s5 h => ?_))
    obtain ⟨q6, h⟩ := h
    refine fb_if_eq (tgt := 100) dd_Mo_compile_87 rfl q6 (fun hc => ?_) (fun hc => ?_)
    · replace h := h.1 hc
      refine fb_aload_n dd_Mo_compile_100 rfl (by decide) ?_
      refine fb_callVv (z := fb_Mo_layOut) (k := 5) (vs := []) (st := []) dd_Mo_compile_101 vw_Mo_185 (by decide) rfl rfl rfl (np := 0) (by decide +kernel) rfl rfl rfl rfl rfl (fb_mono h (fun r7 s8 h => ?_))
      refine fb_aload_n dd_Mo_compile_104 rfl (by decide) (fb_iconst dd_Mo_compile_105 (fb_putI 5 14 dd_Mo_compile_106 rfl rfl rfl (by decide) rfl (by decide +kernel) lk_Mo_191 (fb_iconst dd_Mo_compile_109 (fb_istore_n dd_Mo_compile_110 rfl rfl rfl ?_))))
      exact h
    · replace h := h.2 hc
      refine fb_aload_n dd_Mo_compile_90 rfl (by decide) ?_
      refine fb_callVv (z := fb_Mo_layOut) (k := 5) (vs := []) (st := []) dd_Mo_compile_91 vw_Mo_185 (by decide) rfl rfl rfl (np := 0) (by decide +kernel) rfl rfl rfl rfl rfl (fb_mono h (fun r9 s10 h => ?_))
      refine fb_iinc dd_Mo_compile_94 rfl rfl rfl (fb_goto (tgt := 77) dd_Mo_compile_97 rfl ?_)
      exact h
theorem Mo_compile_b111 {E : fb_E} {σ : fb_S} {Q : Int → fb_S → Prop} (v1 : Int) (h : (-2147483648 ≤ v1 ∧ v1 < 2147483648) ∧ ((144 ≤ v1 → (-2147483648 ≤ (σ.1 173) ∧ (σ.1 173) < 2147483648) ∧ ((500 < (σ.1 173) → Q 6 (fb_sg σ 169 0)) ∧ (¬ 500 < (σ.1 173) → Q 0 (fb_sg σ 169 1)))) ∧ (¬ 144 ≤ v1 → (0 ≤ v1 ∧ v1 < 144) ∧ ((-2147483648 ≤ (σ.2 52 v1) ∧ (σ.2 52 v1) < 2147483648) ∧ (((σ.2 52 v1) = 0 → fb_V E fb_Mo_compile 111 [.inr 5, .inl (v1 + 1)] [] (fb_sg σ 174 ((σ.1 174) + 0)) Q) ∧ (¬ (σ.2 52 v1) = 0 → fb_V E fb_Mo_compile 111 [.inr 5, .inl (v1 + 1)] [] (fb_sg σ 174 ((σ.1 174) + 1)) Q)))))) : fb_V E fb_Mo_compile 111 [.inr 5, .inl v1] [] σ Q := by
  refine fb_iload_n dd_Mo_compile_111 rfl (fb_sipush dd_Mo_compile_112 (by decide) ?_)
  obtain ⟨q1, h⟩ := h
  refine fb_icmp_ge (tgt := 147) dd_Mo_compile_115 rfl q1 (by decide) (fun hc => ?_) (fun hc => ?_)
  · replace h := h.1 hc
    refine fb_aload_n dd_Mo_compile_147 rfl (by decide) (fb_aload_n dd_Mo_compile_148 rfl (by decide) (fb_getI (x := σ.1 173) 5 13 dd_Mo_compile_149 rfl rfl rfl (by decide) lk_Mo_109 rfl (fb_sipush dd_Mo_compile_152 (by decide) ?_)))
    obtain ⟨q2, h⟩ := h
    refine fb_icmp_gt (tgt := 162) dd_Mo_compile_155 rfl q2 (by decide) (fun hc => ?_) (fun hc => ?_)
    · replace h := h.1 hc
      refine fb_iconst dd_Mo_compile_162 (fb_putZ 5 9 dd_Mo_compile_163 (by decide) rfl rfl rfl (by decide) rfl (by decide +kernel) lk_Mo_65 (fb_aload_n dd_Mo_compile_166 rfl (by decide) (fb_getI (x := 0) 5 9 dd_Mo_compile_167 rfl rfl rfl (by decide) lk_Mo_65 rfl ?_)))
      refine fb_if_eq (tgt := 177) dd_Mo_compile_170 rfl (by decide) (fun _ => ?_) (fun hz => absurd hz (by decide))
      refine fb_bipush dd_Mo_compile_177 (by decide) ?_
      exact fb_iret dd_Mo_compile_179 rfl h
    · replace h := h.2 hc
      refine fb_iconst dd_Mo_compile_158 (fb_goto (tgt := 163) dd_Mo_compile_159 rfl (fb_putZ 5 9 dd_Mo_compile_163 (by decide) rfl rfl rfl (by decide) rfl (by decide +kernel) lk_Mo_65 (fb_aload_n dd_Mo_compile_166 rfl (by decide) (fb_getI (x := 1) 5 9 dd_Mo_compile_167 rfl rfl rfl (by decide) lk_Mo_65 rfl ?_))))
      refine fb_if_eq (tgt := 177) dd_Mo_compile_170 rfl (by decide) (fun hz => absurd hz (by decide)) (fun _ => ?_)
      refine fb_iconst dd_Mo_compile_173 (fb_goto (tgt := 179) dd_Mo_compile_174 rfl ?_)
      exact fb_iret dd_Mo_compile_179 rfl h
  · replace h := h.2 hc
    refine fb_aload_n dd_Mo_compile_118 rfl (by decide) (fb_dup dd_Mo_compile_119 (fb_getI (x := σ.1 174) 5 14 dd_Mo_compile_120 rfl rfl rfl (by decide) lk_Mo_191 rfl (fb_aload_n dd_Mo_compile_123 rfl (by decide) (fb_getR 5 18 dd_Mo_compile_124 rfl rfl rfl (by decide) lk_Mo_47 (fb_iload_n dd_Mo_compile_127 rfl ?_)))))
    obtain ⟨q3, h⟩ := h
    refine fb_zld (x := σ.2 52 v1) dd_Mo_compile_128 rfl q3 rfl ?_
    obtain ⟨q4, h⟩ := h
    refine fb_if_eq (tgt := 136) dd_Mo_compile_129 rfl q4 (fun hc => ?_) (fun hc => ?_)
    · replace h := h.1 hc
      refine fb_iconst dd_Mo_compile_136 (fb_iadd dd_Mo_compile_137 (fb_putI 5 14 dd_Mo_compile_138 rfl rfl rfl (by decide) rfl (by decide +kernel) lk_Mo_191 (fb_iinc dd_Mo_compile_141 rfl rfl rfl (fb_goto (tgt := 111) dd_Mo_compile_144 rfl ?_))))
      exact h
    · replace h := h.2 hc
      refine fb_iconst dd_Mo_compile_132 (fb_goto (tgt := 137) dd_Mo_compile_133 rfl (fb_iadd dd_Mo_compile_137 (fb_putI 5 14 dd_Mo_compile_138 rfl rfl rfl (by decide) rfl (by decide +kernel) lk_Mo_191 (fb_iinc dd_Mo_compile_141 rfl rfl rfl (fb_goto (tgt := 111) dd_Mo_compile_144 rfl ?_)))))
      exact h

theorem Mo_length_b0 {E : fb_E} {σ : fb_S} {Q : Int → fb_S → Prop} (h : (-2147483648 ≤ (σ.1 169) ∧ (σ.1 169) < 2147483648) ∧ (((σ.1 169) = 0 → Q 0 σ) ∧ (¬ (σ.1 169) = 0 → Q (σ.1 173) σ))) : fb_V E fb_Mo_length 0 [.inr 5] [] σ Q := by
  refine fb_aload_n dd_Mo_length_0 rfl (by decide) (fb_getI (x := σ.1 169) 5 9 dd_Mo_length_1 rfl rfl rfl (by decide) lk_Mo_65 rfl ?_)
  obtain ⟨q1, h⟩ := h
  refine fb_if_eq (tgt := 14) dd_Mo_length_4 rfl q1 (fun hc => ?_) (fun hc => ?_)
  · replace h := h.1 hc
    refine fb_iconst dd_Mo_length_14 ?_
    exact fb_iret dd_Mo_length_15 rfl h
  · replace h := h.2 hc
    refine fb_aload_n dd_Mo_length_7 rfl (by decide) (fb_getI (x := σ.1 173) 5 13 dd_Mo_length_8 rfl rfl rfl (by decide) lk_Mo_109 rfl (fb_goto (tgt := 15) dd_Mo_length_11 rfl ?_))
    exact fb_iret dd_Mo_length_15 rfl h

theorem Mo_code_b0 {E : fb_E} {σ : fb_S} {Q : Int → fb_S → Prop} (v1 : Int) (h : (-2147483648 ≤ (σ.1 169) ∧ (σ.1 169) < 2147483648) ∧ (((σ.1 169) = 0 → Q (-1) σ) ∧ (¬ (σ.1 169) = 0 → (-2147483648 ≤ v1 ∧ v1 < 2147483648) ∧ ((v1 < 0 → Q (-1) σ) ∧ (¬ v1 < 0 → (-2147483648 ≤ (σ.1 173) ∧ (σ.1 173) < 2147483648) ∧ (((σ.1 173) ≤ v1 → Q (-1) σ) ∧ (¬ (σ.1 173) ≤ v1 → (0 ≤ v1 ∧ v1 < 1700) ∧ (Q (σ.2 49 v1) σ)))))))) : fb_V E fb_Mo_code 0 [.inr 5, .inl v1] [] σ Q := by
  refine fb_aload_n dd_Mo_code_0 rfl (by decide) (fb_getI (x := σ.1 169) 5 9 dd_Mo_code_1 rfl rfl rfl (by decide) lk_Mo_65 rfl ?_)
  obtain ⟨q1, h⟩ := h
  refine fb_if_eq (tgt := 28) dd_Mo_code_4 rfl q1 (fun hc => ?_) (fun hc => ?_)
  · replace h := h.1 hc
    refine fb_iconst dd_Mo_code_28 ?_
    exact fb_iret dd_Mo_code_29 rfl h
  · replace h := h.2 hc
    refine fb_iload_n dd_Mo_code_7 rfl ?_
    obtain ⟨q2, h⟩ := h
    refine fb_if_lt (tgt := 28) dd_Mo_code_8 rfl q2 (fun hc => ?_) (fun hc => ?_)
    · replace h := h.1 hc
      refine fb_iconst dd_Mo_code_28 ?_
      exact fb_iret dd_Mo_code_29 rfl h
    · replace h := h.2 hc
      refine fb_iload_n dd_Mo_code_11 rfl (fb_aload_n dd_Mo_code_12 rfl (by decide) (fb_getI (x := σ.1 173) 5 13 dd_Mo_code_13 rfl rfl rfl (by decide) lk_Mo_109 rfl ?_))
      obtain ⟨q3, h⟩ := h
      refine fb_icmp_ge (tgt := 28) dd_Mo_code_16 rfl q2 q3 (fun hc => ?_) (fun hc => ?_)
      · replace h := h.1 hc
        refine fb_iconst dd_Mo_code_28 ?_
        exact fb_iret dd_Mo_code_29 rfl h
      · replace h := h.2 hc
        refine fb_aload_n dd_Mo_code_19 rfl (by decide) (fb_getR 5 12 dd_Mo_code_20 rfl rfl rfl (by decide) lk_Mo_38 (fb_iload_n dd_Mo_code_23 rfl ?_))
        obtain ⟨q4, h⟩ := h
        refine fb_ild (x := σ.2 49 v1) dd_Mo_code_24 rfl q4 rfl (fb_goto (tgt := 29) dd_Mo_code_25 rfl ?_)
        exact fb_iret dd_Mo_code_29 rfl h

theorem Mo_longs_b0 {E : fb_E} {σ : fb_S} {Q : Int → fb_S → Prop} (h : (-2147483648 ≤ (σ.1 169) ∧ (σ.1 169) < 2147483648) ∧ (((σ.1 169) = 0 → Q 0 σ) ∧ (¬ (σ.1 169) = 0 → Q (σ.1 174) σ))) : fb_V E fb_Mo_longs 0 [.inr 5] [] σ Q := by
  refine fb_aload_n dd_Mo_longs_0 rfl (by decide) (fb_getI (x := σ.1 169) 5 9 dd_Mo_longs_1 rfl rfl rfl (by decide) lk_Mo_65 rfl ?_)
  obtain ⟨q1, h⟩ := h
  refine fb_if_eq (tgt := 14) dd_Mo_longs_4 rfl q1 (fun hc => ?_) (fun hc => ?_)
  · replace h := h.1 hc
    refine fb_iconst dd_Mo_longs_14 ?_
    exact fb_iret dd_Mo_longs_15 rfl h
  · replace h := h.2 hc
    refine fb_aload_n dd_Mo_longs_7 rfl (by decide) (fb_getI (x := σ.1 174) 5 14 dd_Mo_longs_8 rfl rfl rfl (by decide) lk_Mo_191 rfl (fb_goto (tgt := 15) dd_Mo_longs_11 rfl ?_))
    exact fb_iret dd_Mo_longs_15 rfl h
