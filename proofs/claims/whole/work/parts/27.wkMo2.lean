theorem Mo_base_b0 {E : fb_E} {σ : fb_S} {Q : Int → fb_S → Prop} (v1 : Int) (h : (-2147483648 ≤ (σ.1 169) ∧ (σ.1 169) < 2147483648) ∧ (((σ.1 169) = 0 → Q (-1) σ) ∧ (¬ (σ.1 169) = 0 → (-2147483648 ≤ v1 ∧ v1 < 2147483648) ∧ ((v1 < 0 → Q (-1) σ) ∧ (¬ v1 < 0 → (-2147483648 ≤ (σ.1 160) ∧ (σ.1 160) < 2147483648) ∧ (((σ.1 160) ≤ v1 → Q (-1) σ) ∧ (¬ (σ.1 160) ≤ v1 → (0 ≤ v1 ∧ v1 < 6) ∧ (Q (σ.2 47 v1) σ)))))))) : fb_V E fb_Mo_base 0 [.inr 5, .inl v1] [] σ Q := by
  refine fb_aload_n dd_Mo_base_0 rfl (by decide) (fb_getI (x := σ.1 169) 5 9 dd_Mo_base_1 rfl rfl rfl (by decide) lk_Mo_65 rfl ?_)
  obtain ⟨q1, h⟩ := h
  refine fb_if_eq (tgt := 28) dd_Mo_base_4 rfl q1 (fun hc => ?_) (fun hc => ?_)
  · replace h := h.1 hc
    refine fb_iconst dd_Mo_base_28 ?_
    exact fb_iret dd_Mo_base_29 rfl h
  · replace h := h.2 hc
    refine fb_iload_n dd_Mo_base_7 rfl ?_
    obtain ⟨q2, h⟩ := h
    refine fb_if_lt (tgt := 28) dd_Mo_base_8 rfl q2 (fun hc => ?_) (fun hc => ?_)
    · replace h := h.1 hc
      refine fb_iconst dd_Mo_base_28 ?_
      exact fb_iret dd_Mo_base_29 rfl h
    · replace h := h.2 hc
      refine fb_iload_n dd_Mo_base_11 rfl (fb_aload_n dd_Mo_base_12 rfl (by decide) (fb_getI (x := σ.1 160) 5 0 dd_Mo_base_13 rfl rfl rfl (by decide) lk_Mo_72 rfl ?_))
      obtain ⟨q3, h⟩ := h
      refine fb_icmp_ge (tgt := 28) dd_Mo_base_16 rfl q2 q3 (fun hc => ?_) (fun hc => ?_)
      · replace h := h.1 hc
        refine fb_iconst dd_Mo_base_28 ?_
        exact fb_iret dd_Mo_base_29 rfl h
      · replace h := h.2 hc
        refine fb_aload_n dd_Mo_base_19 rfl (by decide) (fb_getR 5 10 dd_Mo_base_20 rfl rfl rfl (by decide) lk_Mo_31 (fb_iload_n dd_Mo_base_23 rfl ?_))
        obtain ⟨q4, h⟩ := h
        refine fb_ild (x := σ.2 47 v1) dd_Mo_base_24 rfl q4 rfl (fb_goto (tgt := 29) dd_Mo_base_25 rfl ?_)
        exact fb_iret dd_Mo_base_29 rfl h

theorem Mo_address_b0 {E : fb_E} {σ : fb_S} {Q : Int → fb_S → Prop} (v1 v2 : Int) (h : (-2147483648 ≤ (σ.1 169) ∧ (σ.1 169) < 2147483648) ∧ (((σ.1 169) = 0 → Q (-1) σ) ∧ (¬ (σ.1 169) = 0 → (-2147483648 ≤ v1 ∧ v1 < 2147483648) ∧ ((v1 < 0 → Q (-1) σ) ∧ (¬ v1 < 0 → (-2147483648 ≤ (σ.1 160) ∧ (σ.1 160) < 2147483648) ∧ (((σ.1 160) ≤ v1 → Q (-1) σ) ∧ (¬ (σ.1 160) ≤ v1 → (-2147483648 ≤ v2 ∧ v2 < 2147483648) ∧ ((v2 < 0 → Q (-1) σ) ∧ (¬ v2 < 0 → (0 ≤ v1 ∧ v1 < 6) ∧ ((-2147483648 ≤ (σ.2 41 v1) ∧ (σ.2 41 v1) < 2147483648) ∧ (((σ.2 41 v1) ≤ v2 → Q (-1) σ) ∧ (¬ (σ.2 41 v1) ≤ v2 → (0 ≤ ((24 * v1) + v2) ∧ ((24 * v1) + v2) < 144) ∧ (Q (σ.2 50 ((24 * v1) + v2)) σ))))))))))))) : fb_V E fb_Mo_address 0 [.inr 5, .inl v1, .inl v2] [] σ Q := by
  refine fb_aload_n dd_Mo_address_0 rfl (by decide) (fb_getI (x := σ.1 169) 5 9 dd_Mo_address_1 rfl rfl rfl (by decide) lk_Mo_65 rfl ?_)
  obtain ⟨q1, h⟩ := h
  refine fb_if_eq (tgt := 47) dd_Mo_address_4 rfl q1 (fun hc => ?_) (fun hc => ?_)
  · replace h := h.1 hc
    refine fb_iconst dd_Mo_address_47 ?_
    exact fb_iret dd_Mo_address_48 rfl h
  · replace h := h.2 hc
    refine fb_iload_n dd_Mo_address_7 rfl ?_
    obtain ⟨q2, h⟩ := h
    refine fb_if_lt (tgt := 47) dd_Mo_address_8 rfl q2 (fun hc => ?_) (fun hc => ?_)
    · replace h := h.1 hc
      refine fb_iconst dd_Mo_address_47 ?_
      exact fb_iret dd_Mo_address_48 rfl h
    · replace h := h.2 hc
      refine fb_iload_n dd_Mo_address_11 rfl (fb_aload_n dd_Mo_address_12 rfl (by decide) (fb_getI (x := σ.1 160) 5 0 dd_Mo_address_13 rfl rfl rfl (by decide) lk_Mo_72 rfl ?_))
      obtain ⟨q3, h⟩ := h
      refine fb_icmp_ge (tgt := 47) dd_Mo_address_16 rfl q2 q3 (fun hc => ?_) (fun hc => ?_)
      · replace h := h.1 hc
        refine fb_iconst dd_Mo_address_47 ?_
        exact fb_iret dd_Mo_address_48 rfl h
      · replace h := h.2 hc
        refine fb_iload_n dd_Mo_address_19 rfl ?_
        obtain ⟨q4, h⟩ := h
        refine fb_if_lt (tgt := 47) dd_Mo_address_20 rfl q4 (fun hc => ?_) (fun hc => ?_)
        · replace h := h.1 hc
          refine fb_iconst dd_Mo_address_47 ?_
          exact fb_iret dd_Mo_address_48 rfl h
        · replace h := h.2 hc
          refine fb_iload_n dd_Mo_address_23 rfl (fb_aload_n dd_Mo_address_24 rfl (by decide) (fb_getR 5 3 dd_Mo_address_25 rfl rfl rfl (by decide) lk_Mo_13 (fb_iload_n dd_Mo_address_28 rfl ?_)))
          obtain ⟨q5, h⟩ := h
          refine fb_ild (x := σ.2 41 v1) dd_Mo_address_29 rfl q5 rfl ?_
          obtain ⟨q6, h⟩ := h
          refine fb_icmp_ge (tgt := 47) dd_Mo_address_30 rfl q4 q6 (fun hc => ?_) (fun hc => ?_)
          · replace h := h.1 hc
            refine fb_iconst dd_Mo_address_47 ?_
            exact fb_iret dd_Mo_address_48 rfl h
          · replace h := h.2 hc
            refine fb_aload_n dd_Mo_address_33 rfl (by decide) (fb_getR 5 16 dd_Mo_address_34 rfl rfl rfl (by decide) lk_Mo_41 (fb_bipush dd_Mo_address_37 (by decide) (fb_iload_n dd_Mo_address_39 rfl (fb_imul dd_Mo_address_40 (fb_iload_n dd_Mo_address_41 rfl (fb_iadd dd_Mo_address_42 ?_))))))
            obtain ⟨q7, h⟩ := h
            refine fb_ild (x := σ.2 50 ((24 * v1) + v2)) dd_Mo_address_43 rfl q7 rfl (fb_goto (tgt := 48) dd_Mo_address_44 rfl ?_)
            exact fb_iret dd_Mo_address_48 rfl h

theorem Mo_start_b0 {E : fb_E} {σ : fb_S} {Q : Int → fb_S → Prop} (h : (-2147483648 ≤ (σ.1 169) ∧ (σ.1 169) < 2147483648) ∧ ((¬ (σ.1 169) = 0 → fb_V E fb_Mo_start 43 [.inr 5, .inl 0] [] (fb_sm (fb_sg (fb_sg (fb_sg (fb_sg (fb_sg σ 182 1) 183 0) 184 0) 186 0) 185 1) 55 0 0) Q) ∧ ((σ.1 169) = 0 → Q 0 σ))) : fb_V E fb_Mo_start 0 [.inr 5, .inr 999] [] σ Q := by
  refine fb_aload_n dd_Mo_start_0 rfl (by decide) (fb_getI (x := σ.1 169) 5 9 dd_Mo_start_1 rfl rfl rfl (by decide) lk_Mo_65 rfl ?_)
  obtain ⟨q1, h⟩ := h
  refine fb_if_ne (tgt := 9) dd_Mo_start_4 rfl q1 (fun hc => ?_) (fun hc => ?_)
  · replace h := h.1 hc
    refine fb_aload_n dd_Mo_start_9 rfl (by decide) (fb_iconst dd_Mo_start_10 (fb_putZ 5 22 dd_Mo_start_11 (by decide) rfl rfl rfl (by decide) rfl (by decide +kernel) lk_Mo_69 (fb_aload_n dd_Mo_start_14 rfl (by decide) (fb_iconst dd_Mo_start_15 (fb_putI 5 23 dd_Mo_start_16 rfl rfl rfl (by decide) rfl (by decide +kernel) lk_Mo_194 (fb_aload_n dd_Mo_start_19 rfl (by decide) (fb_iconst dd_Mo_start_20 ?_)))))))
    refine fb_putI 5 24 dd_Mo_start_21 rfl rfl rfl (by decide) rfl (by decide +kernel) lk_Mo_197 (fb_aload_n dd_Mo_start_24 rfl (by decide) (fb_iconst dd_Mo_start_25 (fb_putI 5 26 dd_Mo_start_26 rfl rfl rfl (by decide) rfl (by decide +kernel) lk_Mo_200 (fb_aload_n dd_Mo_start_29 rfl (by decide) (fb_iconst dd_Mo_start_30 (fb_putI 5 25 dd_Mo_start_31 rfl rfl rfl (by decide) rfl (by decide +kernel) lk_Mo_203 (fb_aload_n dd_Mo_start_34 rfl (by decide) ?_)))))))
    refine fb_getR 5 27 dd_Mo_start_35 rfl rfl rfl (by decide) lk_Mo_56 (fb_iconst dd_Mo_start_38 (fb_iconst dd_Mo_start_39 (fb_ist dd_Mo_start_40 rfl (by decide) (fb_iconst dd_Mo_start_41 (fb_istore_n dd_Mo_start_42 rfl rfl rfl ?_)))))
    exact h
  · replace h := h.2 hc
    refine fb_iconst dd_Mo_start_7 ?_
    exact fb_zret dd_Mo_start_8 rfl (by decide) h
theorem Mo_start_b43 {E : fb_E} {σ : fb_S} {Q : Int → fb_S → Prop} (v1 : Int) (h : (-2147483648 ≤ v1 ∧ v1 < 2147483648) ∧ ((128 ≤ v1 → Q 1 σ) ∧ (¬ 128 ≤ v1 → (0 ≤ v1 ∧ v1 < 128) ∧ (fb_V E fb_Mo_start 43 [.inr 5, .inl (v1 + 1)] [] (fb_sm σ 56 v1 0) Q)))) : fb_V E fb_Mo_start 43 [.inr 5, .inl v1] [] σ Q := by
  refine fb_iload_n dd_Mo_start_43 rfl (fb_sipush dd_Mo_start_44 (by decide) ?_)
  obtain ⟨q1, h⟩ := h
  refine fb_icmp_ge (tgt := 63) dd_Mo_start_47 rfl q1 (by decide) (fun hc => ?_) (fun hc => ?_)
  · replace h := h.1 hc
    refine fb_iconst dd_Mo_start_63 ?_
    exact fb_zret dd_Mo_start_64 rfl (by decide) h
  · replace h := h.2 hc
    refine fb_aload_n dd_Mo_start_50 rfl (by decide) (fb_getR 5 28 dd_Mo_start_51 rfl rfl rfl (by decide) lk_Mo_59 (fb_iload_n dd_Mo_start_54 rfl (fb_iconst dd_Mo_start_55 ?_)))
    obtain ⟨q2, h⟩ := h
    refine fb_ist dd_Mo_start_56 rfl q2 (fb_iinc dd_Mo_start_57 rfl rfl rfl (fb_goto (tgt := 43) dd_Mo_start_60 rfl ?_))
    exact h

theorem Mo_read_b0 {E : fb_E} {σ : fb_S} {Q : Int → fb_S → Prop} (v1 v2 : Int) (h : fb_V E fb_Mo_place 0 [.inr 5, .inl v1, .inl v2, .inr 999, .inr 999] [] σ (fun r1 s2 => (0 ≤ ((6 * v1) + v2) ∧ ((6 * v1) + v2) < 36) ∧ ((-2147483648 ≤ (s2.2 42 ((6 * v1) + v2)) ∧ (s2.2 42 ((6 * v1) + v2)) < 2147483648) ∧ ((¬ (s2.2 42 ((6 * v1) + v2)) = 2 → (0 ≤ r1 ∧ r1 < 128) ∧ (Q (s2.2 56 r1) s2)) ∧ ((s2.2 42 ((6 * v1) + v2)) = 2 → (0 ≤ r1 ∧ r1 < 128) ∧ ((0 ≤ (r1 + 1) ∧ (r1 + 1) < 128) ∧ (Q ((s2.2 56 r1) + (256 * (s2.2 56 (r1 + 1)))) s2))))))) : fb_V E fb_Mo_read 0 [.inr 5, .inl v1, .inl v2, .inr 999] [] σ Q := by
  refine fb_aload_n dd_Mo_read_0 rfl (by decide) (fb_iload_n dd_Mo_read_1 rfl (fb_iload_n dd_Mo_read_2 rfl ?_))
  refine fb_callVi (z := fb_Mo_place) (k := 5) (vs := [.inl v1, .inl v2]) (st := []) dd_Mo_read_3 vw_Mo_105 (by decide) ⟨_, rfl⟩ rfl rfl (np := 2) (by decide +kernel) rfl rfl rfl rfl rfl (fb_mono h (fun r1 s2 h => ?_))
  refine fb_istore_n dd_Mo_read_6 rfl rfl rfl (fb_aload_n dd_Mo_read_7 rfl (by decide) (fb_getR 5 4 dd_Mo_read_8 rfl rfl rfl (by decide) lk_Mo_16 (fb_bipush dd_Mo_read_11 (by decide) (fb_iload_n dd_Mo_read_13 rfl (fb_imul dd_Mo_read_14 (fb_iload_n dd_Mo_read_15 rfl (fb_iadd dd_Mo_read_16 ?_)))))))
  obtain ⟨q3, h⟩ := h
  refine fb_ild (x := s2.2 42 ((6 * v1) + v2)) dd_Mo_read_17 rfl q3 rfl (fb_iconst dd_Mo_read_18 ?_)
  obtain ⟨q4, h⟩ := h
  refine fb_icmp_ne (tgt := 44) dd_Mo_read_19 rfl q4 (by decide) (fun hc => ?_) (fun hc => ?_)
  · replace h := h.1 hc
    refine fb_aload_n dd_Mo_read_44 rfl (by decide) (fb_getR 5 28 dd_Mo_read_45 rfl rfl rfl (by decide) lk_Mo_59 (fb_iload_n dd_Mo_read_48 rfl ?_))
    obtain ⟨q5, h⟩ := h
    refine fb_ild (x := s2.2 56 r1) dd_Mo_read_49 rfl q5 rfl ?_
    exact fb_iret dd_Mo_read_50 rfl h
  · replace h := h.2 hc
    refine fb_aload_n dd_Mo_read_22 rfl (by decide) (fb_getR 5 28 dd_Mo_read_23 rfl rfl rfl (by decide) lk_Mo_59 (fb_iload_n dd_Mo_read_26 rfl ?_))
    obtain ⟨q6, h⟩ := h
    refine fb_ild (x := s2.2 56 r1) dd_Mo_read_27 rfl q6 rfl (fb_sipush dd_Mo_read_28 (by decide) (fb_aload_n dd_Mo_read_31 rfl (by decide) (fb_getR 5 28 dd_Mo_read_32 rfl rfl rfl (by decide) lk_Mo_59 (fb_iload_n dd_Mo_read_35 rfl (fb_iconst dd_Mo_read_36 (fb_iadd dd_Mo_read_37 ?_))))))
    obtain ⟨q7, h⟩ := h
    refine fb_ild (x := s2.2 56 (r1 + 1)) dd_Mo_read_38 rfl q7 rfl (fb_imul dd_Mo_read_39 (fb_iadd dd_Mo_read_40 (fb_goto (tgt := 50) dd_Mo_read_41 rfl ?_)))
    exact fb_iret dd_Mo_read_50 rfl h

theorem Mo_write_b0 {E : fb_E} {σ : fb_S} {Q : Int → fb_S → Prop} (v1 v2 v3 : Int) (h : fb_V E fb_Mo_place 0 [.inr 5, .inl v1, .inl v2, .inr 999, .inr 999] [] σ (fun r1 s2 => (0 ≤ r1 ∧ r1 < 128) ∧ ((0 ≤ ((6 * v1) + v2) ∧ ((6 * v1) + v2) < 36) ∧ ((-2147483648 ≤ (s2.2 42 ((6 * v1) + v2)) ∧ (s2.2 42 ((6 * v1) + v2)) < 2147483648) ∧ ((¬ (s2.2 42 ((6 * v1) + v2)) = 2 → Q 0 (fb_sm s2 56 r1 (v3 % 256))) ∧ ((s2.2 42 ((6 * v1) + v2)) = 2 → (-2147483648 ≤ v3 ∧ v3 < 2147483648) ∧ ((0 ≤ (r1 + 1) ∧ (r1 + 1) < 128) ∧ (Q 0 (fb_sm (fb_sm s2 56 r1 (v3 % 256)) 56 (r1 + 1) ((v3 / 256) % 256)))))))))) : fb_V E fb_Mo_write 0 [.inr 5, .inl v1, .inl v2, .inl v3, .inr 999] [] σ Q := by
  refine fb_aload_n dd_Mo_write_0 rfl (by decide) (fb_iload_n dd_Mo_write_1 rfl (fb_iload_n dd_Mo_write_2 rfl ?_))
  refine fb_callVi (z := fb_Mo_place) (k := 5) (vs := [.inl v1, .inl v2]) (st := []) dd_Mo_write_3 vw_Mo_105 (by decide) ⟨_, rfl⟩ rfl rfl (np := 2) (by decide +kernel) rfl rfl rfl rfl rfl (fb_mono h (fun r1 s2 h => ?_))
  refine fb_istore dd_Mo_write_6 rfl rfl rfl (fb_aload_n dd_Mo_write_8 rfl (by decide) (fb_getR 5 28 dd_Mo_write_9 rfl rfl rfl (by decide) lk_Mo_59 (fb_iload dd_Mo_write_12 rfl (fb_iload_n dd_Mo_write_14 rfl (fb_sipush dd_Mo_write_15 (by decide) (fb_iandM 8 (p := 256) (by decide) (by decide) (by decide) dd_Mo_write_18 ?_))))))
  obtain ⟨q3, h⟩ := h
  refine fb_ist dd_Mo_write_19 rfl q3 (fb_aload_n dd_Mo_write_20 rfl (by decide) (fb_getR 5 4 dd_Mo_write_21 rfl rfl rfl (by decide) lk_Mo_16 (fb_bipush dd_Mo_write_24 (by decide) (fb_iload_n dd_Mo_write_26 rfl (fb_imul dd_Mo_write_27 (fb_iload_n dd_Mo_write_28 rfl (fb_iadd dd_Mo_write_29 ?_)))))))
  obtain ⟨q4, h⟩ := h
  refine fb_ild (x := s2.2 42 ((6 * v1) + v2)) dd_Mo_write_30 rfl q4 rfl (fb_iconst dd_Mo_write_31 ?_)
  obtain ⟨q5, h⟩ := h
  refine fb_icmp_ne (tgt := 52) dd_Mo_write_32 rfl q5 (by decide) (fun hc => ?_) (fun hc => ?_)
  · replace h := h.1 hc
    exact fb_vret dd_Mo_write_52 rfl h
  · replace h := h.2 hc
    refine fb_aload_n dd_Mo_write_35 rfl (by decide) (fb_getR 5 28 dd_Mo_write_36 rfl rfl rfl (by decide) lk_Mo_59 (fb_iload dd_Mo_write_39 rfl (fb_iconst dd_Mo_write_41 (fb_iadd dd_Mo_write_42 (fb_iload_n dd_Mo_write_43 rfl (fb_bipush dd_Mo_write_44 (by decide) ?_))))))
    obtain ⟨q6, h⟩ := h
    refine fb_ishrC 8 (p := 256) (by decide) (by decide) (by decide) dd_Mo_write_46 q6 (fb_sipush dd_Mo_write_47 (by decide) (fb_iandM 8 (p := 256) (by decide) (by decide) (by decide) dd_Mo_write_50 ?_))
    obtain ⟨q7, h⟩ := h
    refine fb_ist dd_Mo_write_51 rfl q7 ?_
    exact fb_vret dd_Mo_write_52 rfl h

theorem Mo_send_b0 {E : fb_E} {σ : fb_S} {Q : Int → fb_S → Prop} (v1 : Int) (h : (-2147483648 ≤ (σ.1 186) ∧ (σ.1 186) < 2147483648) ∧ ((100 ≤ (σ.1 186) → Q 0 (fb_sg σ 186 ((σ.1 186) + 1))) ∧ (¬ 100 ≤ (σ.1 186) → (0 ≤ (σ.1 186) ∧ (σ.1 186) < 100) ∧ (Q 0 (fb_sg (fb_sm σ 57 (σ.1 186) v1) 186 ((σ.1 186) + 1)))))) : fb_V E fb_Mo_send 0 [.inr 5, .inl v1] [] σ Q := by
  refine fb_aload_n dd_Mo_send_0 rfl (by decide) (fb_getI (x := σ.1 186) 5 26 dd_Mo_send_1 rfl rfl rfl (by decide) lk_Mo_200 rfl (fb_bipush dd_Mo_send_4 (by decide) ?_))
  obtain ⟨q1, h⟩ := h
  refine fb_icmp_ge (tgt := 19) dd_Mo_send_6 rfl q1 (by decide) (fun hc => ?_) (fun hc => ?_)
  · replace h := h.1 hc
    refine fb_aload_n dd_Mo_send_19 rfl (by decide) (fb_dup dd_Mo_send_20 (fb_getI (x := σ.1 186) 5 26 dd_Mo_send_21 rfl rfl rfl (by decide) lk_Mo_200 rfl (fb_iconst dd_Mo_send_24 (fb_iadd dd_Mo_send_25 (fb_putI 5 26 dd_Mo_send_26 rfl rfl rfl (by decide) rfl (by decide +kernel) lk_Mo_200 ?_)))))
    exact fb_vret dd_Mo_send_29 rfl h
  · replace h := h.2 hc
    refine fb_aload_n dd_Mo_send_9 rfl (by decide) (fb_getR 5 29 dd_Mo_send_10 rfl rfl rfl (by decide) lk_Mo_62 (fb_aload_n dd_Mo_send_13 rfl (by decide) (fb_getI (x := σ.1 186) 5 26 dd_Mo_send_14 rfl rfl rfl (by decide) lk_Mo_200 rfl (fb_iload_n dd_Mo_send_17 rfl ?_))))
    obtain ⟨q2, h⟩ := h
    refine fb_ist dd_Mo_send_18 rfl q2 (fb_aload_n dd_Mo_send_19 rfl (by decide) (fb_dup dd_Mo_send_20 (fb_getI (x := σ.1 186) 5 26 dd_Mo_send_21 rfl rfl rfl (by decide) lk_Mo_200 rfl (fb_iconst dd_Mo_send_24 (fb_iadd dd_Mo_send_25 (fb_putI 5 26 dd_Mo_send_26 rfl rfl rfl (by decide) rfl (by decide +kernel) lk_Mo_200 ?_))))))
    exact fb_vret dd_Mo_send_29 rfl h

theorem Mo_compute_b0 {E : fb_E} {σ : fb_S} {Q : Int → fb_S → Prop} (v1 v2 v3 : Int) (h : (-2147483648 ≤ v1 ∧ v1 < 2147483648) ∧ ((v1 = 1 → Q v2 σ) ∧ (v1 = 2 → Q (v2 + v3) σ) ∧ (v1 = 3 → Q (v2 - v3) σ) ∧ (v1 = 4 → (0 ≤ v2 ∧ v2 < 2147483648) ∧ ((0 ≤ v3 ∧ v3 < 2147483648) ∧ (Q (((v2 : Int).toNat &&& (v3 : Int).toNat : Nat) : Int) σ))) ∧ (v1 = 5 → (0 ≤ v2 ∧ v2 < 2147483648) ∧ ((0 ≤ v3 ∧ v3 < 2147483648) ∧ (Q (((v2 : Int).toNat ||| (v3 : Int).toNat : Nat) : Int) σ))) ∧ (v1 = 6 → (0 ≤ v2 ∧ v2 < 2147483648) ∧ ((0 ≤ v3 ∧ v3 < 2147483648) ∧ (Q (((v2 : Int).toNat ^^^ (v3 : Int).toNat : Nat) : Int) σ))) ∧ ((¬ v1 = 1 ∧ ¬ v1 = 2 ∧ ¬ v1 = 3 ∧ ¬ v1 = 4 ∧ ¬ v1 = 5 ∧ ¬ v1 = 6) → Q (v2 + v2) σ))) : fb_V E fb_Mo_compute 0 [.inr 999, .inl v1, .inl v2, .inl v3] [] σ Q := by
  refine fb_iload_n dd_Mo_compute_0 rfl ?_
  obtain ⟨q1, h⟩ := h
  rcases (show (v1 = 1) ∨ (v1 = 2) ∨ (v1 = 3) ∨ (v1 = 4) ∨ (v1 = 5) ∨ (v1 = 6) ∨ (¬ v1 = 1 ∧ ¬ v1 = 2 ∧ ¬ v1 = 3 ∧ ¬ v1 = 4 ∧ ¬ v1 = 5 ∧ ¬ v1 = 6) by omega) with hc | hc | hc | hc | hc | hc | hc
  · replace h := h.1 hc
    refine fb_tsIn (tgt := 40) (39) dd_Mo_compute_1 q1 (by omega) (by omega) (by rw [hc]; rfl) rfl ?_
    refine fb_iload_n dd_Mo_compute_40 rfl ?_
    exact fb_iret dd_Mo_compute_41 rfl h
  · replace h := h.2.1 hc
    refine fb_tsIn (tgt := 42) (41) dd_Mo_compute_1 q1 (by omega) (by omega) (by rw [hc]; rfl) rfl ?_
    refine fb_iload_n dd_Mo_compute_42 rfl (fb_iload_n dd_Mo_compute_43 rfl (fb_iadd dd_Mo_compute_44 ?_))
    exact fb_iret dd_Mo_compute_45 rfl h
  · replace h := h.2.2.1 hc
    refine fb_tsIn (tgt := 46) (45) dd_Mo_compute_1 q1 (by omega) (by omega) (by rw [hc]; rfl) rfl ?_
    refine fb_iload_n dd_Mo_compute_46 rfl (fb_iload_n dd_Mo_compute_47 rfl (fb_isub dd_Mo_compute_48 ?_))
    exact fb_iret dd_Mo_compute_49 rfl h
  · replace h := h.2.2.2.1 hc
    refine fb_tsIn (tgt := 50) (49) dd_Mo_compute_1 q1 (by omega) (by omega) (by rw [hc]; rfl) rfl ?_
    refine fb_iload_n dd_Mo_compute_50 rfl (fb_iload_n dd_Mo_compute_51 rfl ?_)
    obtain ⟨q2, h⟩ := h
    obtain ⟨q3, h⟩ := h
    refine fb_iand dd_Mo_compute_52 q2 q3 ?_
    exact fb_iret dd_Mo_compute_53 rfl h
  · replace h := h.2.2.2.2.1 hc
    refine fb_tsIn (tgt := 54) (53) dd_Mo_compute_1 q1 (by omega) (by omega) (by rw [hc]; rfl) rfl ?_
    refine fb_iload_n dd_Mo_compute_54 rfl (fb_iload_n dd_Mo_compute_55 rfl ?_)
    obtain ⟨q4, h⟩ := h
    obtain ⟨q5, h⟩ := h
    refine fb_ior dd_Mo_compute_56 q4 q5 ?_
    exact fb_iret dd_Mo_compute_57 rfl h
  · replace h := h.2.2.2.2.2.1 hc
    refine fb_tsIn (tgt := 58) (57) dd_Mo_compute_1 q1 (by omega) (by omega) (by rw [hc]; rfl) rfl ?_
    refine fb_iload_n dd_Mo_compute_58 rfl (fb_iload_n dd_Mo_compute_59 rfl ?_)
    obtain ⟨q6, h⟩ := h
    obtain ⟨q7, h⟩ := h
    refine fb_ixor dd_Mo_compute_60 q6 q7 ?_
    exact fb_iret dd_Mo_compute_61 rfl h
  · replace h := h.2.2.2.2.2.2 hc
    refine fb_tsOut (tgt := 62) dd_Mo_compute_1 q1 (by omega) rfl ?_
    refine fb_iload_n dd_Mo_compute_62 rfl (fb_iload_n dd_Mo_compute_63 rfl (fb_iadd dd_Mo_compute_64 ?_))
    exact fb_iret dd_Mo_compute_65 rfl h

theorem Mo_decide_b0 {E : fb_E} {σ : fb_S} {Q : Int → fb_S → Prop} (v1 v2 : Int) (h : (0 ≤ v1 ∧ v1 < 144) ∧ ((-2147483648 ≤ (σ.2 52 v1) ∧ (σ.2 52 v1) < 2147483648) ∧ (((σ.2 52 v1) = 0 → (-2147483648 ≤ v2 ∧ v2 < 2147483648) ∧ ((v2 = 0 → (0 ≤ ((σ.1 185) - 1) ∧ ((σ.1 185) - 1) < 8) ∧ (Q 0 (fb_sm (fb_sg σ 184 ((σ.1 184) + 1)) 55 ((σ.1 185) - 1) (v1 + 1)))) ∧ (¬ v2 = 0 → (0 ≤ v1 ∧ v1 < 2147483648) ∧ (fb_V E fb_Mo_goal 0 [.inr 5, .inl v1] [] (fb_sg σ 184 ((σ.1 184) + 1)) (fun r6 s7 => (0 ≤ ((σ.1 185) - 1) ∧ ((σ.1 185) - 1) < 8) ∧ (Q 0 (fb_sm s7 55 ((σ.1 185) - 1) (((v1 / 24) * 24) + r6)))))))) ∧ (¬ (σ.2 52 v1) = 0 → (-2147483648 ≤ v2 ∧ v2 < 2147483648) ∧ ((v2 = 0 → (v2 = 0 → (0 ≤ ((σ.1 185) - 1) ∧ ((σ.1 185) - 1) < 8) ∧ (Q 0 (fb_sm (fb_sg σ 184 ((σ.1 184) + 1)) 55 ((σ.1 185) - 1) (v1 + 1)))) ∧ (¬ v2 = 0 → (0 ≤ v1 ∧ v1 < 2147483648) ∧ (fb_V E fb_Mo_goal 0 [.inr 5, .inl v1] [] (fb_sg σ 184 ((σ.1 184) + 1)) (fun r12 s13 => (0 ≤ ((σ.1 185) - 1) ∧ ((σ.1 185) - 1) < 8) ∧ (Q 0 (fb_sm s13 55 ((σ.1 185) - 1) (((v1 / 24) * 24) + r12))))))) ∧ (¬ v2 = 0 → (v2 = 0 → (0 ≤ ((σ.1 185) - 1) ∧ ((σ.1 185) - 1) < 8) ∧ (Q 0 (fb_sm (fb_sg σ 184 ((σ.1 184) + 2)) 55 ((σ.1 185) - 1) (v1 + 1)))) ∧ (¬ v2 = 0 → (0 ≤ v1 ∧ v1 < 2147483648) ∧ (fb_V E fb_Mo_goal 0 [.inr 5, .inl v1] [] (fb_sg σ 184 ((σ.1 184) + 2)) (fun r17 s18 => (0 ≤ ((σ.1 185) - 1) ∧ ((σ.1 185) - 1) < 8) ∧ (Q 0 (fb_sm s18 55 ((σ.1 185) - 1) (((v1 / 24) * 24) + r17)))))))))))) : fb_V E fb_Mo_decide 0 [.inr 5, .inl v1, .inl v2] [] σ Q := by
  refine fb_aload_n dd_Mo_decide_0 rfl (by decide) (fb_dup dd_Mo_decide_1 (fb_getI (x := σ.1 184) 5 24 dd_Mo_decide_2 rfl rfl rfl (by decide) lk_Mo_197 rfl (fb_aload_n dd_Mo_decide_5 rfl (by decide) (fb_getR 5 18 dd_Mo_decide_6 rfl rfl rfl (by decide) lk_Mo_47 (fb_iload_n dd_Mo_decide_9 rfl ?_)))))
  obtain ⟨q1, h⟩ := h
  refine fb_zld (x := σ.2 52 v1) dd_Mo_decide_10 rfl q1 rfl ?_
  obtain ⟨q2, h⟩ := h
  refine fb_if_eq (tgt := 22) dd_Mo_decide_11 rfl q2 (fun hc => ?_) (fun hc => ?_)
  · replace h := h.1 hc
    refine fb_iconst dd_Mo_decide_22 (fb_iadd dd_Mo_decide_23 (fb_putI 5 24 dd_Mo_decide_24 rfl rfl rfl (by decide) rfl (by decide +kernel) lk_Mo_197 (fb_aload_n dd_Mo_decide_27 rfl (by decide) (fb_getR 5 27 dd_Mo_decide_28 rfl rfl rfl (by decide) lk_Mo_56 (fb_aload_n dd_Mo_decide_31 rfl (by decide) (fb_getI (x := σ.1 185) 5 25 dd_Mo_decide_32 rfl rfl rfl (by decide) lk_Mo_203 rfl (fb_iconst dd_Mo_decide_35 ?_)))))))
    refine fb_isub dd_Mo_decide_36 (fb_iload_n dd_Mo_decide_37 rfl ?_)
    obtain ⟨q3, h⟩ := h
    refine fb_if_eq (tgt := 57) dd_Mo_decide_38 rfl q3 (fun hc => ?_) (fun hc => ?_)
    · replace h := h.1 hc
      refine fb_iload_n dd_Mo_decide_57 rfl (fb_iconst dd_Mo_decide_58 (fb_iadd dd_Mo_decide_59 ?_))
      obtain ⟨q4, h⟩ := h
      refine fb_ist dd_Mo_decide_60 rfl q4 ?_
      exact fb_vret dd_Mo_decide_61 rfl h
    · replace h := h.2 hc
      refine fb_iload_n dd_Mo_decide_41 rfl (fb_bipush dd_Mo_decide_42 (by decide) ?_)
      obtain ⟨q5, h⟩ := h
      refine fb_idiv dd_Mo_decide_44 q5 (by decide) (fb_bipush dd_Mo_decide_45 (by decide) (fb_imul dd_Mo_decide_47 (fb_aload_n dd_Mo_decide_48 rfl (by decide) (fb_iload_n dd_Mo_decide_49 rfl ?_))))
      refine fb_callVi (z := fb_Mo_goal) (k := 5) (vs := [.inl v1]) (st := [.inl ((v1 / 24) * 24), .inl ((σ.1 185) - 1), .inr 55]) dd_Mo_decide_50 vw_Mo_98 (by decide) ⟨_, rfl⟩ rfl rfl (np := 1) (by decide +kernel) rfl rfl rfl rfl rfl (fb_mono h (fun r6 s7 h => ?_))
      refine fb_iadd dd_Mo_decide_53 (fb_goto (tgt := 60) dd_Mo_decide_54 rfl ?_)
      obtain ⟨q8, h⟩ := h
      refine fb_ist dd_Mo_decide_60 rfl q8 ?_
      exact fb_vret dd_Mo_decide_61 rfl h
  · replace h := h.2 hc
    refine fb_iload_n dd_Mo_decide_14 rfl ?_
    obtain ⟨q9, h⟩ := h
    refine fb_if_eq (tgt := 22) dd_Mo_decide_15 rfl q9 (fun hc => ?_) (fun hc => ?_)
    · replace h := h.1 hc
      refine fb_iconst dd_Mo_decide_22 (fb_iadd dd_Mo_decide_23 (fb_putI 5 24 dd_Mo_decide_24 rfl rfl rfl (by decide) rfl (by decide +kernel) lk_Mo_197 (fb_aload_n dd_Mo_decide_27 rfl (by decide) (fb_getR 5 27 dd_Mo_decide_28 rfl rfl rfl (by decide) lk_Mo_56 (fb_aload_n dd_Mo_decide_31 rfl (by decide) (fb_getI (x := σ.1 185) 5 25 dd_Mo_decide_32 rfl rfl rfl (by decide) lk_Mo_203 rfl (fb_iconst dd_Mo_decide_35 ?_)))))))
      refine fb_isub dd_Mo_decide_36 (fb_iload_n dd_Mo_decide_37 rfl ?_)
      refine fb_if_eq (tgt := 57) dd_Mo_decide_38 rfl q9 (fun hc => ?_) (fun hc => ?_)
      · replace h := h.1 hc
        refine fb_iload_n dd_Mo_decide_57 rfl (fb_iconst dd_Mo_decide_58 (fb_iadd dd_Mo_decide_59 ?_))
        obtain ⟨q10, h⟩ := h
        refine fb_ist dd_Mo_decide_60 rfl q10 ?_
        exact fb_vret dd_Mo_decide_61 rfl h
      · replace h := h.2 hc
        refine fb_iload_n dd_Mo_decide_41 rfl (fb_bipush dd_Mo_decide_42 (by decide) ?_)
        obtain ⟨q11, h⟩ := h
        refine fb_idiv dd_Mo_decide_44 q11 (by decide) (fb_bipush dd_Mo_decide_45 (by decide) (fb_imul dd_Mo_decide_47 (fb_aload_n dd_Mo_decide_48 rfl (by decide) (fb_iload_n dd_Mo_decide_49 rfl ?_))))
        refine fb_callVi (z := fb_Mo_goal) (k := 5) (vs := [.inl v1]) (st := [.inl ((v1 / 24) * 24), .inl ((σ.1 185) - 1), .inr 55]) dd_Mo_decide_50 vw_Mo_98 (by decide) ⟨_, rfl⟩ rfl rfl (np := 1) (by decide +kernel) rfl rfl rfl rfl rfl (fb_mono h (fun r12 s13 h => ?_))
        refine fb_iadd dd_Mo_decide_53 (fb_goto (tgt := 60) dd_Mo_decide_54 rfl ?_)
        obtain ⟨q14, h⟩ := h
        refine fb_ist dd_Mo_decide_60 rfl q14 ?_
        exact fb_vret dd_Mo_decide_61 rfl h
    · replace h := h.2 hc
      refine fb_iconst dd_Mo_decide_18 (fb_goto (tgt := 23) dd_Mo_decide_19 rfl (fb_iadd dd_Mo_decide_23 (fb_putI 5 24 dd_Mo_decide_24 rfl rfl rfl (by decide) rfl (by decide +kernel) lk_Mo_197 (fb_aload_n dd_Mo_decide_27 rfl (by decide) (fb_getR 5 27 dd_Mo_decide_28 rfl rfl rfl (by decide) lk_Mo_56 (fb_aload_n dd_Mo_decide_31 rfl (by decide) (fb_getI (x := σ.1 185) 5 25 dd_Mo_decide_32 rfl rfl rfl (by decide) lk_Mo_203 rfl ?_)))))))
      refine fb_iconst dd_Mo_decide_35 (fb_isub dd_Mo_decide_36 (fb_iload_n dd_Mo_decide_37 rfl ?_))
      refine fb_if_eq (tgt := 57) dd_Mo_decide_38 rfl q9 (fun hc => ?_) (fun hc => ?_)
      · replace h := h.1 hc
        refine fb_iload_n dd_Mo_decide_57 rfl (fb_iconst dd_Mo_decide_58 (fb_iadd dd_Mo_decide_59 ?_))
        obtain ⟨q15, h⟩ := h
        refine fb_ist dd_Mo_decide_60 rfl q15 ?_
        exact fb_vret dd_Mo_decide_61 rfl h
      · replace h := h.2 hc
        refine fb_iload_n dd_Mo_decide_41 rfl (fb_bipush dd_Mo_decide_42 (by decide) ?_)
        obtain ⟨q16, h⟩ := h
        refine fb_idiv dd_Mo_decide_44 q16 (by decide) (fb_bipush dd_Mo_decide_45 (by decide) (fb_imul dd_Mo_decide_47 (fb_aload_n dd_Mo_decide_48 rfl (by decide) (fb_iload_n dd_Mo_decide_49 rfl ?_))))
        refine fb_callVi (z := fb_Mo_goal) (k := 5) (vs := [.inl v1]) (st := [.inl ((v1 / 24) * 24), .inl ((σ.1 185) - 1), .inr 55]) dd_Mo_decide_50 vw_Mo_98 (by decide) ⟨_, rfl⟩ rfl rfl (np := 1) (by decide +kernel) rfl rfl rfl rfl rfl (fb_mono h (fun r17 s18 h => ?_))
        refine fb_iadd dd_Mo_decide_53 (fb_goto (tgt := 60) dd_Mo_decide_54 rfl ?_)
        obtain ⟨q19, h⟩ := h
        refine fb_ist dd_Mo_decide_60 rfl q19 ?_
        exact fb_vret dd_Mo_decide_61 rfl h

theorem Mo_touch_b0 {E : fb_E} {σ : fb_S} {Q : Int → fb_S → Prop} (v1 v2 : Int) (h : (0 ≤ v2 ∧ v2 < 144) ∧ ((-2147483648 ≤ (σ.2 43 v2) ∧ (σ.2 43 v2) < 2147483648) ∧ ((¬ (σ.2 43 v2) = 8 → fb_V E fb_Mo_read 0 [.inr 5, .inl v1, .inl (σ.2 45 v2), .inr 999] [] σ (fun r3 s4 => (0 ≤ ((6 * v1) + (σ.2 44 v2)) ∧ ((6 * v1) + (σ.2 44 v2)) < 36) ∧ ((-2147483648 ≤ r3 ∧ r3 < 2147483648) ∧ ((-2147483648 ≤ (s4.2 42 ((6 * v1) + (σ.2 44 v2))) ∧ (s4.2 42 ((6 * v1) + (σ.2 44 v2))) < 2147483648) ∧ ((r3 < (s4.2 42 ((6 * v1) + (σ.2 44 v2))) → fb_V E fb_Mo_place 0 [.inr 5, .inl v1, .inl (σ.2 44 v2), .inr 999, .inr 999] [] s4 (fun r8 s9 => fb_V E fb_Mo_read 0 [.inr 5, .inl v1, .inl (s9.2 46 v2), .inr 999] [] s9 (fun r10 s11 => (0 ≤ (r8 + r3) ∧ (r8 + r3) < 128) ∧ ((0 ≤ ((s11.1 185) - 1) ∧ ((s11.1 185) - 1) < 8) ∧ (Q 0 (fb_sm (fb_sm s11 56 (r8 + r3) (r10 % 256)) 55 ((s11.1 185) - 1) (v2 + 1))))))) ∧ (¬ r3 < (s4.2 42 ((6 * v1) + (σ.2 44 v2))) → Q 0 (fb_sg (fb_sg s4 183 2) 184 ((s4.1 184) + (4 - (s4.2 53 v2)))))))))) ∧ ((σ.2 43 v2) = 8 → fb_V E fb_Mo_read 0 [.inr 5, .inl v1, .inl (σ.2 46 v2), .inr 999] [] σ (fun r14 s15 => (0 ≤ ((6 * v1) + (σ.2 45 v2)) ∧ ((6 * v1) + (σ.2 45 v2)) < 36) ∧ ((-2147483648 ≤ r14 ∧ r14 < 2147483648) ∧ ((-2147483648 ≤ (s15.2 42 ((6 * v1) + (σ.2 45 v2))) ∧ (s15.2 42 ((6 * v1) + (σ.2 45 v2))) < 2147483648) ∧ ((r14 < (s15.2 42 ((6 * v1) + (σ.2 45 v2))) → fb_V E fb_Mo_place 0 [.inr 5, .inl v1, .inl (σ.2 45 v2), .inr 999, .inr 999] [] s15 (fun r19 s20 => (0 ≤ (r19 + r14) ∧ (r19 + r14) < 128) ∧ (fb_V E fb_Mo_write 0 [.inr 5, .inl v1, .inl (s20.2 44 v2), .inl (s20.2 56 (r19 + r14)), .inr 999] [] s20 (fun _ s23 => (0 ≤ ((s23.1 185) - 1) ∧ ((s23.1 185) - 1) < 8) ∧ (Q 0 (fb_sm s23 55 ((s23.1 185) - 1) (v2 + 1))))))) ∧ (¬ r14 < (s15.2 42 ((6 * v1) + (σ.2 45 v2))) → Q 0 (fb_sg (fb_sg s15 183 2) 184 ((s15.1 184) + (4 - (s15.2 53 v2))))))))))))) : fb_V E fb_Mo_touch 0 [.inr 5, .inl v1, .inl v2, .inr 999, .inr 999, .inr 999, .inr 999] [] σ Q := by
  refine fb_aload_n dd_Mo_touch_0 rfl (by decide) (fb_getR 5 5 dd_Mo_touch_1 rfl rfl rfl (by decide) lk_Mo_19 (fb_iload_n dd_Mo_touch_4 rfl ?_))
  obtain ⟨q1, h⟩ := h
  refine fb_ild (x := σ.2 43 v2) dd_Mo_touch_5 rfl q1 rfl (fb_bipush dd_Mo_touch_6 (by decide) ?_)
  obtain ⟨q2, h⟩ := h
  refine fb_icmp_ne (tgt := 15) dd_Mo_touch_8 rfl q2 (by decide) (fun hc => ?_) (fun hc => ?_)
  · replace h := h.1 hc
    refine fb_iconst dd_Mo_touch_15 (fb_istore_n dd_Mo_touch_16 rfl rfl rfl (fb_iload_n dd_Mo_touch_17 rfl ?_))
    refine fb_if_eq (tgt := 30) dd_Mo_touch_18 rfl (by decide) (fun _ => ?_) (fun hz => absurd hz (by decide))
    refine fb_aload_n dd_Mo_touch_30 rfl (by decide) (fb_getR 5 6 dd_Mo_touch_31 rfl rfl rfl (by decide) lk_Mo_22 (fb_iload_n dd_Mo_touch_34 rfl (fb_ild (x := σ.2 44 v2) dd_Mo_touch_35 rfl q1 rfl (fb_istore dd_Mo_touch_36 rfl rfl rfl (fb_aload_n dd_Mo_touch_38 rfl (by decide) (fb_iload_n dd_Mo_touch_39 rfl (fb_iload_n dd_Mo_touch_40 rfl ?_)))))))
    refine fb_if_eq (tgt := 53) dd_Mo_touch_41 rfl (by decide) (fun _ => ?_) (fun hz => absurd hz (by decide))
    refine fb_aload_n dd_Mo_touch_53 rfl (by decide) (fb_getR 5 7 dd_Mo_touch_54 rfl rfl rfl (by decide) lk_Mo_25 (fb_iload_n dd_Mo_touch_57 rfl (fb_ild (x := σ.2 45 v2) dd_Mo_touch_58 rfl q1 rfl ?_)))
    refine fb_callVi (z := fb_Mo_read) (k := 5) (vs := [.inl v1, .inl (σ.2 45 v2)]) (st := []) dd_Mo_touch_59 vw_Mo_206 (by decide) ⟨_, rfl⟩ rfl rfl (np := 2) (by decide +kernel) rfl rfl rfl rfl rfl (fb_mono h (fun r3 s4 h => ?_))
    refine fb_istore dd_Mo_touch_62 rfl rfl rfl (fb_iload dd_Mo_touch_64 rfl (fb_aload_n dd_Mo_touch_66 rfl (by decide) (fb_getR 5 4 dd_Mo_touch_67 rfl rfl rfl (by decide) lk_Mo_16 (fb_bipush dd_Mo_touch_70 (by decide) (fb_iload_n dd_Mo_touch_72 rfl (fb_imul dd_Mo_touch_73 (fb_iload dd_Mo_touch_74 rfl ?_)))))))
    refine fb_iadd dd_Mo_touch_76 ?_
    obtain ⟨q5, h⟩ := h
    refine fb_ild (x := s4.2 42 ((6 * v1) + (σ.2 44 v2))) dd_Mo_touch_77 rfl q5 rfl ?_
    obtain ⟨q6, h⟩ := h
    obtain ⟨q7, h⟩ := h
    refine fb_icmp_lt (tgt := 104) dd_Mo_touch_78 rfl q6 q7 (fun hc => ?_) (fun hc => ?_)
    · replace h := h.1 hc
      refine fb_aload_n dd_Mo_touch_104 rfl (by decide) (fb_iload_n dd_Mo_touch_105 rfl (fb_iload dd_Mo_touch_106 rfl ?_))
      refine fb_callVi (z := fb_Mo_place) (k := 5) (vs := [.inl v1, .inl (σ.2 44 v2)]) (st := []) dd_Mo_touch_108 vw_Mo_105 (by decide) ⟨_, rfl⟩ rfl rfl (np := 2) (by decide +kernel) rfl rfl rfl rfl rfl (fb_mono h (fun r8 s9 h => ?_))
      refine fb_iload dd_Mo_touch_111 rfl (fb_iadd dd_Mo_touch_113 (fb_istore dd_Mo_touch_114 rfl rfl rfl (fb_iload_n dd_Mo_touch_116 rfl ?_)))
      refine fb_if_eq (tgt := 141) dd_Mo_touch_117 rfl (by decide) (fun _ => ?_) (fun hz => absurd hz (by decide))
      refine fb_aload_n dd_Mo_touch_141 rfl (by decide) (fb_getR 5 28 dd_Mo_touch_142 rfl rfl rfl (by decide) lk_Mo_59 (fb_iload dd_Mo_touch_145 rfl (fb_aload_n dd_Mo_touch_147 rfl (by decide) (fb_iload_n dd_Mo_touch_148 rfl (fb_aload_n dd_Mo_touch_149 rfl (by decide) (fb_getR 5 8 dd_Mo_touch_150 rfl rfl rfl (by decide) lk_Mo_28 (fb_iload_n dd_Mo_touch_153 rfl ?_)))))))
      refine fb_ild (x := s9.2 46 v2) dd_Mo_touch_154 rfl q1 rfl ?_
      refine fb_callVi (z := fb_Mo_read) (k := 5) (vs := [.inl v1, .inl (s9.2 46 v2)]) (st := [.inl (r8 + r3), .inr 56]) dd_Mo_touch_155 vw_Mo_206 (by decide) ⟨_, rfl⟩ rfl rfl (np := 2) (by decide +kernel) rfl rfl rfl rfl rfl (fb_mono h (fun r10 s11 h => ?_))
      refine fb_sipush dd_Mo_touch_158 (by decide) (fb_iandM 8 (p := 256) (by decide) (by decide) (by decide) dd_Mo_touch_161 ?_)
      obtain ⟨q12, h⟩ := h
      refine fb_ist dd_Mo_touch_162 rfl q12 (fb_aload_n dd_Mo_touch_163 rfl (by decide) (fb_getR 5 27 dd_Mo_touch_164 rfl rfl rfl (by decide) lk_Mo_56 (fb_aload_n dd_Mo_touch_167 rfl (by decide) (fb_getI (x := s11.1 185) 5 25 dd_Mo_touch_168 rfl rfl rfl (by decide) lk_Mo_203 rfl (fb_iconst dd_Mo_touch_171 (fb_isub dd_Mo_touch_172 (fb_iload_n dd_Mo_touch_173 rfl ?_)))))))
      refine fb_iconst dd_Mo_touch_174 (fb_iadd dd_Mo_touch_175 ?_)
      obtain ⟨q13, h⟩ := h
      refine fb_ist dd_Mo_touch_176 rfl q13 ?_
      exact fb_vret dd_Mo_touch_177 rfl h
    · replace h := h.2 hc
      refine fb_aload_n dd_Mo_touch_81 rfl (by decide) (fb_iconst dd_Mo_touch_82 (fb_putI 5 23 dd_Mo_touch_83 rfl rfl rfl (by decide) rfl (by decide +kernel) lk_Mo_194 (fb_aload_n dd_Mo_touch_86 rfl (by decide) (fb_dup dd_Mo_touch_87 (fb_getI (x := s4.1 184) 5 24 dd_Mo_touch_88 rfl rfl rfl (by decide) lk_Mo_197 rfl (fb_iconst dd_Mo_touch_91 (fb_aload_n dd_Mo_touch_92 rfl (by decide) ?_)))))))
      refine fb_getR 5 19 dd_Mo_touch_93 rfl rfl rfl (by decide) lk_Mo_50 (fb_iload_n dd_Mo_touch_96 rfl (fb_ild (x := s4.2 53 v2) dd_Mo_touch_97 rfl q1 rfl (fb_isub dd_Mo_touch_98 (fb_iadd dd_Mo_touch_99 (fb_putI 5 24 dd_Mo_touch_100 rfl rfl rfl (by decide) rfl (by decide +kernel) lk_Mo_197 ?_)))))
      exact fb_vret dd_Mo_touch_103 rfl h
  · replace h := h.2 hc
    refine fb_iconst dd_Mo_touch_11 (fb_goto (tgt := 16) dd_Mo_touch_12 rfl (fb_istore_n dd_Mo_touch_16 rfl rfl rfl (fb_iload_n dd_Mo_touch_17 rfl ?_)))
    refine fb_if_eq (tgt := 30) dd_Mo_touch_18 rfl (by decide) (fun hz => absurd hz (by decide)) (fun _ => ?_)
    refine fb_aload_n dd_Mo_touch_21 rfl (by decide) (fb_getR 5 7 dd_Mo_touch_22 rfl rfl rfl (by decide) lk_Mo_25 (fb_iload_n dd_Mo_touch_25 rfl (fb_ild (x := σ.2 45 v2) dd_Mo_touch_26 rfl q1 rfl (fb_goto (tgt := 36) dd_Mo_touch_27 rfl (fb_istore dd_Mo_touch_36 rfl rfl rfl (fb_aload_n dd_Mo_touch_38 rfl (by decide) (fb_iload_n dd_Mo_touch_39 rfl ?_)))))))
    refine fb_iload_n dd_Mo_touch_40 rfl ?_
    refine fb_if_eq (tgt := 53) dd_Mo_touch_41 rfl (by decide) (fun hz => absurd hz (by decide)) (fun _ => ?_)
    refine fb_aload_n dd_Mo_touch_44 rfl (by decide) (fb_getR 5 8 dd_Mo_touch_45 rfl rfl rfl (by decide) lk_Mo_28 (fb_iload_n dd_Mo_touch_48 rfl (fb_ild (x := σ.2 46 v2) dd_Mo_touch_49 rfl q1 rfl (fb_goto (tgt := 59) dd_Mo_touch_50 rfl ?_))))
    refine fb_callVi (z := fb_Mo_read) (k := 5) (vs := [.inl v1, .inl (σ.2 46 v2)]) (st := []) dd_Mo_touch_59 vw_Mo_206 (by decide) ⟨_, rfl⟩ rfl rfl (np := 2) (by decide +kernel) rfl rfl rfl rfl rfl (fb_mono h (fun r14 s15 h => ?_))
    refine fb_istore dd_Mo_touch_62 rfl rfl rfl (fb_iload dd_Mo_touch_64 rfl (fb_aload_n dd_Mo_touch_66 rfl (by decide) (fb_getR 5 4 dd_Mo_touch_67 rfl rfl rfl (by decide) lk_Mo_16 (fb_bipush dd_Mo_touch_70 (by decide) (fb_iload_n dd_Mo_touch_72 rfl (fb_imul dd_Mo_touch_73 (fb_iload dd_Mo_touch_74 rfl ?_)))))))
    refine fb_iadd dd_Mo_touch_76 ?_
    obtain ⟨q16, h⟩ := h
    refine fb_ild (x := s15.2 42 ((6 * v1) + (σ.2 45 v2))) dd_Mo_touch_77 rfl q16 rfl ?_
    obtain ⟨q17, h⟩ := h
    obtain ⟨q18, h⟩ := h
    refine fb_icmp_lt (tgt := 104) dd_Mo_touch_78 rfl q17 q18 (fun hc => ?_) (fun hc => ?_)
    · replace h := h.1 hc
      refine fb_aload_n dd_Mo_touch_104 rfl (by decide) (fb_iload_n dd_Mo_touch_105 rfl (fb_iload dd_Mo_touch_106 rfl ?_))
      refine fb_callVi (z := fb_Mo_place) (k := 5) (vs := [.inl v1, .inl (σ.2 45 v2)]) (st := []) dd_Mo_touch_108 vw_Mo_105 (by decide) ⟨_, rfl⟩ rfl rfl (np := 2) (by decide +kernel) rfl rfl rfl rfl rfl (fb_mono h (fun r19 s20 h => ?_))
      refine fb_iload dd_Mo_touch_111 rfl (fb_iadd dd_Mo_touch_113 (fb_istore dd_Mo_touch_114 rfl rfl rfl (fb_iload_n dd_Mo_touch_116 rfl ?_)))
      refine fb_if_eq (tgt := 141) dd_Mo_touch_117 rfl (by decide) (fun hz => absurd hz (by decide)) (fun _ => ?_)
      refine fb_aload_n dd_Mo_touch_120 rfl (by decide) (fb_iload_n dd_Mo_touch_121 rfl (fb_aload_n dd_Mo_touch_122 rfl (by decide) (fb_getR 5 6 dd_Mo_touch_123 rfl rfl rfl (by decide) lk_Mo_22 (fb_iload_n dd_Mo_touch_126 rfl (fb_ild (x := s20.2 44 v2) dd_Mo_touch_127 rfl q1 rfl (fb_aload_n dd_Mo_touch_128 rfl (by decide) (fb_getR 5 28 dd_Mo_touch_129 rfl rfl rfl (by decide) lk_Mo_59 ?_)))))))
      refine fb_iload dd_Mo_touch_132 rfl ?_
      obtain ⟨q21, h⟩ := h
      refine fb_ild (x := s20.2 56 (r19 + r14)) dd_Mo_touch_134 rfl q21 rfl ?_
      refine fb_callVv (z := fb_Mo_write) (k := 5) (vs := [.inl v1, .inl (s20.2 44 v2), .inl (s20.2 56 (r19 + r14))]) (st := []) dd_Mo_touch_135 vw_Mo_209 (by decide) rfl rfl rfl (np := 3) (by decide +kernel) rfl rfl rfl rfl rfl (fb_mono h (fun r22 s23 h => ?_))
      refine fb_goto (tgt := 163) dd_Mo_touch_138 rfl (fb_aload_n dd_Mo_touch_163 rfl (by decide) (fb_getR 5 27 dd_Mo_touch_164 rfl rfl rfl (by decide) lk_Mo_56 (fb_aload_n dd_Mo_touch_167 rfl (by decide) (fb_getI (x := s23.1 185) 5 25 dd_Mo_touch_168 rfl rfl rfl (by decide) lk_Mo_203 rfl (fb_iconst dd_Mo_touch_171 (fb_isub dd_Mo_touch_172 (fb_iload_n dd_Mo_touch_173 rfl ?_)))))))
      refine fb_iconst dd_Mo_touch_174 (fb_iadd dd_Mo_touch_175 ?_)
      obtain ⟨q24, h⟩ := h
      refine fb_ist dd_Mo_touch_176 rfl q24 ?_
      exact fb_vret dd_Mo_touch_177 rfl h
    · replace h := h.2 hc
      refine fb_aload_n dd_Mo_touch_81 rfl (by decide) (fb_iconst dd_Mo_touch_82 (fb_putI 5 23 dd_Mo_touch_83 rfl rfl rfl (by decide) rfl (by decide +kernel) lk_Mo_194 (fb_aload_n dd_Mo_touch_86 rfl (by decide) (fb_dup dd_Mo_touch_87 (fb_getI (x := s15.1 184) 5 24 dd_Mo_touch_88 rfl rfl rfl (by decide) lk_Mo_197 rfl (fb_iconst dd_Mo_touch_91 (fb_aload_n dd_Mo_touch_92 rfl (by decide) ?_)))))))
      refine fb_getR 5 19 dd_Mo_touch_93 rfl rfl rfl (by decide) lk_Mo_50 (fb_iload_n dd_Mo_touch_96 rfl (fb_ild (x := s15.2 53 v2) dd_Mo_touch_97 rfl q1 rfl (fb_isub dd_Mo_touch_98 (fb_iadd dd_Mo_touch_99 (fb_putI 5 24 dd_Mo_touch_100 rfl rfl rfl (by decide) rfl (by decide +kernel) lk_Mo_197 ?_)))))
      exact fb_vret dd_Mo_touch_103 rfl h

theorem Mo_enter_b0 {E : fb_E} {σ : fb_S} {Q : Int → fb_S → Prop} (v1 v2 : Int) (h : (0 ≤ v2 ∧ v2 < 144) ∧ ((0 ≤ (σ.2 44 v2) ∧ (σ.2 44 v2) < 6) ∧ ((-2147483648 ≤ (σ.2 40 (σ.2 44 v2)) ∧ (σ.2 40 (σ.2 44 v2)) < 2147483648) ∧ (((σ.2 40 (σ.2 44 v2)) ≤ 0 → (0 ≤ (σ.1 185) ∧ (σ.1 185) < 8) ∧ (Q 0 (fb_sg (fb_sm σ 55 (σ.1 185) (24 * (σ.2 44 v2))) 185 ((σ.1 185) + 1)))) ∧ (¬ (σ.2 40 (σ.2 44 v2)) ≤ 0 → (0 ≤ (6 * (σ.2 44 v2)) ∧ (6 * (σ.2 44 v2)) < 36) ∧ ((-2147483648 ≤ (σ.2 42 (6 * (σ.2 44 v2))) ∧ (σ.2 42 (6 * (σ.2 44 v2))) < 2147483648) ∧ ((3 ≤ (σ.2 42 (6 * (σ.2 44 v2))) → (0 ≤ (σ.1 185) ∧ (σ.1 185) < 8) ∧ (Q 0 (fb_sg (fb_sm σ 55 (σ.1 185) (24 * (σ.2 44 v2))) 185 ((σ.1 185) + 1)))) ∧ (¬ 3 ≤ (σ.2 42 (6 * (σ.2 44 v2))) → fb_V E fb_Mo_read 0 [.inr 5, .inl v1, .inl (σ.2 45 v2), .inr 999] [] σ (fun r8 s9 => fb_V E fb_Mo_write 0 [.inr 5, .inl (σ.2 44 v2), .inl 0, .inl r8, .inr 999] [] s9 (fun _ s11 => (0 ≤ (s11.1 185) ∧ (s11.1 185) < 8) ∧ (Q 0 (fb_sg (fb_sm s11 55 (s11.1 185) (24 * (σ.2 44 v2))) 185 ((s11.1 185) + 1))))))))))))) : fb_V E fb_Mo_enter 0 [.inr 5, .inl v1, .inl v2, .inr 999, .inr 999] [] σ Q := by
  refine fb_aload_n dd_Mo_enter_0 rfl (by decide) (fb_getR 5 6 dd_Mo_enter_1 rfl rfl rfl (by decide) lk_Mo_22 (fb_iload_n dd_Mo_enter_4 rfl ?_))
  obtain ⟨q1, h⟩ := h
  refine fb_ild (x := σ.2 44 v2) dd_Mo_enter_5 rfl q1 rfl (fb_istore_n dd_Mo_enter_6 rfl rfl rfl (fb_aload_n dd_Mo_enter_7 rfl (by decide) (fb_getR 5 2 dd_Mo_enter_8 rfl rfl rfl (by decide) lk_Mo_7 (fb_iload_n dd_Mo_enter_11 rfl ?_))))
  obtain ⟨q2, h⟩ := h
  refine fb_ild (x := σ.2 40 (σ.2 44 v2)) dd_Mo_enter_12 rfl q2 rfl ?_
  obtain ⟨q3, h⟩ := h
  refine fb_if_le (tgt := 50) dd_Mo_enter_13 rfl q3 (fun hc => ?_) (fun hc => ?_)
  · replace h := h.1 hc
    refine fb_aload_n dd_Mo_enter_50 rfl (by decide) (fb_getR 5 27 dd_Mo_enter_51 rfl rfl rfl (by decide) lk_Mo_56 (fb_aload_n dd_Mo_enter_54 rfl (by decide) (fb_getI (x := σ.1 185) 5 25 dd_Mo_enter_55 rfl rfl rfl (by decide) lk_Mo_203 rfl (fb_bipush dd_Mo_enter_58 (by decide) (fb_iload_n dd_Mo_enter_60 rfl (fb_imul dd_Mo_enter_61 ?_))))))
    obtain ⟨q4, h⟩ := h
    refine fb_ist dd_Mo_enter_62 rfl q4 (fb_aload_n dd_Mo_enter_63 rfl (by decide) (fb_dup dd_Mo_enter_64 (fb_getI (x := σ.1 185) 5 25 dd_Mo_enter_65 rfl rfl rfl (by decide) lk_Mo_203 rfl (fb_iconst dd_Mo_enter_68 (fb_iadd dd_Mo_enter_69 (fb_putI 5 25 dd_Mo_enter_70 rfl rfl rfl (by decide) rfl (by decide +kernel) lk_Mo_203 ?_))))))
    exact fb_vret dd_Mo_enter_73 rfl h
  · replace h := h.2 hc
    refine fb_aload_n dd_Mo_enter_16 rfl (by decide) (fb_getR 5 4 dd_Mo_enter_17 rfl rfl rfl (by decide) lk_Mo_16 (fb_bipush dd_Mo_enter_20 (by decide) (fb_iload_n dd_Mo_enter_22 rfl (fb_imul dd_Mo_enter_23 ?_))))
    obtain ⟨q5, h⟩ := h
    refine fb_ild (x := σ.2 42 (6 * (σ.2 44 v2))) dd_Mo_enter_24 rfl q5 rfl (fb_iconst dd_Mo_enter_25 ?_)
    obtain ⟨q6, h⟩ := h
    refine fb_icmp_ge (tgt := 50) dd_Mo_enter_26 rfl q6 (by decide) (fun hc => ?_) (fun hc => ?_)
    · replace h := h.1 hc
      refine fb_aload_n dd_Mo_enter_50 rfl (by decide) (fb_getR 5 27 dd_Mo_enter_51 rfl rfl rfl (by decide) lk_Mo_56 (fb_aload_n dd_Mo_enter_54 rfl (by decide) (fb_getI (x := σ.1 185) 5 25 dd_Mo_enter_55 rfl rfl rfl (by decide) lk_Mo_203 rfl (fb_bipush dd_Mo_enter_58 (by decide) (fb_iload_n dd_Mo_enter_60 rfl (fb_imul dd_Mo_enter_61 ?_))))))
      obtain ⟨q7, h⟩ := h
      refine fb_ist dd_Mo_enter_62 rfl q7 (fb_aload_n dd_Mo_enter_63 rfl (by decide) (fb_dup dd_Mo_enter_64 (fb_getI (x := σ.1 185) 5 25 dd_Mo_enter_65 rfl rfl rfl (by decide) lk_Mo_203 rfl (fb_iconst dd_Mo_enter_68 (fb_iadd dd_Mo_enter_69 (fb_putI 5 25 dd_Mo_enter_70 rfl rfl rfl (by decide) rfl (by decide +kernel) lk_Mo_203 ?_))))))
      exact fb_vret dd_Mo_enter_73 rfl h
    · replace h := h.2 hc
      refine fb_aload_n dd_Mo_enter_29 rfl (by decide) (fb_iload_n dd_Mo_enter_30 rfl (fb_aload_n dd_Mo_enter_31 rfl (by decide) (fb_getR 5 7 dd_Mo_enter_32 rfl rfl rfl (by decide) lk_Mo_25 (fb_iload_n dd_Mo_enter_35 rfl (fb_ild (x := σ.2 45 v2) dd_Mo_enter_36 rfl q1 rfl ?_)))))
      refine fb_callVi (z := fb_Mo_read) (k := 5) (vs := [.inl v1, .inl (σ.2 45 v2)]) (st := []) dd_Mo_enter_37 vw_Mo_206 (by decide) ⟨_, rfl⟩ rfl rfl (np := 2) (by decide +kernel) rfl rfl rfl rfl rfl (fb_mono h (fun r8 s9 h => ?_))
      refine fb_istore dd_Mo_enter_40 rfl rfl rfl (fb_aload_n dd_Mo_enter_42 rfl (by decide) (fb_iload_n dd_Mo_enter_43 rfl (fb_iconst dd_Mo_enter_44 (fb_iload dd_Mo_enter_45 rfl ?_))))
      refine fb_callVv (z := fb_Mo_write) (k := 5) (vs := [.inl (σ.2 44 v2), .inl 0, .inl r8]) (st := []) dd_Mo_enter_47 vw_Mo_209 (by decide) rfl rfl rfl (np := 3) (by decide +kernel) rfl rfl rfl rfl rfl (fb_mono h (fun r10 s11 h => ?_))
      refine fb_aload_n dd_Mo_enter_50 rfl (by decide) (fb_getR 5 27 dd_Mo_enter_51 rfl rfl rfl (by decide) lk_Mo_56 (fb_aload_n dd_Mo_enter_54 rfl (by decide) (fb_getI (x := s11.1 185) 5 25 dd_Mo_enter_55 rfl rfl rfl (by decide) lk_Mo_203 rfl (fb_bipush dd_Mo_enter_58 (by decide) (fb_iload_n dd_Mo_enter_60 rfl (fb_imul dd_Mo_enter_61 ?_))))))
      obtain ⟨q12, h⟩ := h
      refine fb_ist dd_Mo_enter_62 rfl q12 (fb_aload_n dd_Mo_enter_63 rfl (by decide) (fb_dup dd_Mo_enter_64 (fb_getI (x := s11.1 185) 5 25 dd_Mo_enter_65 rfl rfl rfl (by decide) lk_Mo_203 rfl (fb_iconst dd_Mo_enter_68 (fb_iadd dd_Mo_enter_69 (fb_putI 5 25 dd_Mo_enter_70 rfl rfl rfl (by decide) rfl (by decide +kernel) lk_Mo_203 ?_))))))
      exact fb_vret dd_Mo_enter_73 rfl h

theorem Mo_leave_b0 {E : fb_E} {σ : fb_S} {Q : Int → fb_S → Prop} (v1 v2 : Int) (h : (0 ≤ v2 ∧ v2 < 144) ∧ (fb_V E fb_Mo_read 0 [.inr 5, .inl v1, .inl (σ.2 44 v2), .inr 999] [] σ (fun r2 s3 => (-2147483648 ≤ r2 ∧ r2 < 2147483648) ∧ ((-2147483648 ≤ ((s3.1 185) - 1) ∧ ((s3.1 185) - 1) < 2147483648) ∧ ((¬ ((s3.1 185) - 1) = 0 → (0 ≤ (((s3.1 185) - 1) - 1) ∧ (((s3.1 185) - 1) - 1) < 8) ∧ ((0 ≤ (s3.2 55 (((s3.1 185) - 1) - 1)) ∧ (s3.2 55 (((s3.1 185) - 1) - 1)) < 2147483648) ∧ ((0 ≤ (s3.2 55 (((s3.1 185) - 1) - 1)) ∧ (s3.2 55 (((s3.1 185) - 1) - 1)) < 144) ∧ (fb_V E fb_Mo_write 0 [.inr 5, .inl ((s3.2 55 (((s3.1 185) - 1) - 1)) / 24), .inl (s3.2 46 (s3.2 55 (((s3.1 185) - 1) - 1))), .inl r2, .inr 999] [] (fb_sg (fb_sm (fb_sm s3 56 126 (r2 % 256)) 56 127 (r2 / 256)) 185 ((s3.1 185) - 1)) (fun _ s10 => (0 ≤ ((s10.1 185) - 1) ∧ ((s10.1 185) - 1) < 8) ∧ (Q 0 (fb_sm (fb_sg s10 184 ((s10.1 184) + (s10.2 54 (s3.2 55 (((s3.1 185) - 1) - 1))))) 55 ((s10.1 185) - 1) ((s3.2 55 (((s3.1 185) - 1) - 1)) + 1)))))))) ∧ (((s3.1 185) - 1) = 0 → Q 0 (fb_sg (fb_sg (fb_sm (fb_sm s3 56 126 (r2 % 256)) 56 127 (r2 / 256)) 185 ((s3.1 185) - 1)) 183 1))))))) : fb_V E fb_Mo_leave 0 [.inr 5, .inl v1, .inl v2, .inr 999, .inr 999] [] σ Q := by
  refine fb_aload_n dd_Mo_leave_0 rfl (by decide) (fb_iload_n dd_Mo_leave_1 rfl (fb_aload_n dd_Mo_leave_2 rfl (by decide) (fb_getR 5 6 dd_Mo_leave_3 rfl rfl rfl (by decide) lk_Mo_22 (fb_iload_n dd_Mo_leave_6 rfl ?_))))
  obtain ⟨q1, h⟩ := h
  refine fb_ild (x := σ.2 44 v2) dd_Mo_leave_7 rfl q1 rfl ?_
  refine fb_callVi (z := fb_Mo_read) (k := 5) (vs := [.inl v1, .inl (σ.2 44 v2)]) (st := []) dd_Mo_leave_8 vw_Mo_206 (by decide) ⟨_, rfl⟩ rfl rfl (np := 2) (by decide +kernel) rfl rfl rfl rfl rfl (fb_mono h (fun r2 s3 h => ?_))
  refine fb_istore_n dd_Mo_leave_11 rfl rfl rfl (fb_aload_n dd_Mo_leave_12 rfl (by decide) (fb_getR 5 28 dd_Mo_leave_13 rfl rfl rfl (by decide) lk_Mo_59 (fb_bipush dd_Mo_leave_16 (by decide) (fb_iload_n dd_Mo_leave_18 rfl (fb_sipush dd_Mo_leave_19 (by decide) (fb_iandM 8 (p := 256) (by decide) (by decide) (by decide) dd_Mo_leave_22 (fb_ist dd_Mo_leave_23 rfl (by decide) ?_)))))))
  refine fb_aload_n dd_Mo_leave_24 rfl (by decide) (fb_getR 5 28 dd_Mo_leave_25 rfl rfl rfl (by decide) lk_Mo_59 (fb_bipush dd_Mo_leave_28 (by decide) (fb_iload_n dd_Mo_leave_30 rfl (fb_bipush dd_Mo_leave_31 (by decide) ?_))))
  obtain ⟨q4, h⟩ := h
  refine fb_ishrC 8 (p := 256) (by decide) (by decide) (by decide) dd_Mo_leave_33 q4 (fb_ist dd_Mo_leave_34 rfl (by decide) (fb_aload_n dd_Mo_leave_35 rfl (by decide) (fb_dup dd_Mo_leave_36 (fb_getI (x := s3.1 185) 5 25 dd_Mo_leave_37 rfl rfl rfl (by decide) lk_Mo_203 rfl (fb_iconst dd_Mo_leave_40 (fb_isub dd_Mo_leave_41 (fb_putI 5 25 dd_Mo_leave_42 rfl rfl rfl (by decide) rfl (by decide +kernel) lk_Mo_203 ?_)))))))
  refine fb_aload_n dd_Mo_leave_45 rfl (by decide) (fb_getI (x := (s3.1 185) - 1) 5 25 dd_Mo_leave_46 rfl rfl rfl (by decide) lk_Mo_203 rfl ?_)
  obtain ⟨q5, h⟩ := h
  refine fb_if_ne (tgt := 58) dd_Mo_leave_49 rfl q5 (fun hc => ?_) (fun hc => ?_)
  · replace h := h.1 hc
    refine fb_aload_n dd_Mo_leave_58 rfl (by decide) (fb_getR 5 27 dd_Mo_leave_59 rfl rfl rfl (by decide) lk_Mo_56 (fb_aload_n dd_Mo_leave_62 rfl (by decide) (fb_getI (x := (s3.1 185) - 1) 5 25 dd_Mo_leave_63 rfl rfl rfl (by decide) lk_Mo_203 rfl (fb_iconst dd_Mo_leave_66 (fb_isub dd_Mo_leave_67 ?_)))))
    obtain ⟨q6, h⟩ := h
    refine fb_ild (x := s3.2 55 (((s3.1 185) - 1) - 1)) dd_Mo_leave_68 rfl q6 rfl (fb_istore dd_Mo_leave_69 rfl rfl rfl (fb_aload_n dd_Mo_leave_71 rfl (by decide) (fb_iload dd_Mo_leave_72 rfl (fb_bipush dd_Mo_leave_74 (by decide) ?_))))
    obtain ⟨q7, h⟩ := h
    refine fb_idiv dd_Mo_leave_76 q7 (by decide) (fb_aload_n dd_Mo_leave_77 rfl (by decide) (fb_getR 5 8 dd_Mo_leave_78 rfl rfl rfl (by decide) lk_Mo_28 (fb_iload dd_Mo_leave_81 rfl ?_)))
    obtain ⟨q8, h⟩ := h
    refine fb_ild (x := s3.2 46 (s3.2 55 (((s3.1 185) - 1) - 1))) dd_Mo_leave_83 rfl q8 rfl (fb_iload_n dd_Mo_leave_84 rfl ?_)
    refine fb_callVv (z := fb_Mo_write) (k := 5) (vs := [.inl ((s3.2 55 (((s3.1 185) - 1) - 1)) / 24), .inl (s3.2 46 (s3.2 55 (((s3.1 185) - 1) - 1))), .inl r2]) (st := []) dd_Mo_leave_85 vw_Mo_209 (by decide) rfl rfl rfl (np := 3) (by decide +kernel) rfl rfl rfl rfl rfl (fb_mono h (fun r9 s10 h => ?_))
    refine fb_aload_n dd_Mo_leave_88 rfl (by decide) (fb_dup dd_Mo_leave_89 (fb_getI (x := s10.1 184) 5 24 dd_Mo_leave_90 rfl rfl rfl (by decide) lk_Mo_197 rfl (fb_aload_n dd_Mo_leave_93 rfl (by decide) (fb_getR 5 20 dd_Mo_leave_94 rfl rfl rfl (by decide) lk_Mo_53 (fb_iload dd_Mo_leave_97 rfl (fb_ild (x := s10.2 54 (s3.2 55 (((s3.1 185) - 1) - 1))) dd_Mo_leave_99 rfl q8 rfl (fb_iadd dd_Mo_leave_100 ?_)))))))
    refine fb_putI 5 24 dd_Mo_leave_101 rfl rfl rfl (by decide) rfl (by decide +kernel) lk_Mo_197 (fb_aload_n dd_Mo_leave_104 rfl (by decide) (fb_getR 5 27 dd_Mo_leave_105 rfl rfl rfl (by decide) lk_Mo_56 (fb_aload_n dd_Mo_leave_108 rfl (by decide) (fb_getI (x := s10.1 185) 5 25 dd_Mo_leave_109 rfl rfl rfl (by decide) lk_Mo_203 rfl (fb_iconst dd_Mo_leave_112 (fb_isub dd_Mo_leave_113 (fb_iload dd_Mo_leave_114 rfl ?_)))))))
    refine fb_iconst dd_Mo_leave_116 (fb_iadd dd_Mo_leave_117 ?_)
    obtain ⟨q11, h⟩ := h
    refine fb_ist dd_Mo_leave_118 rfl q11 ?_
    exact fb_vret dd_Mo_leave_119 rfl h
  · replace h := h.2 hc
    refine fb_aload_n dd_Mo_leave_52 rfl (by decide) (fb_iconst dd_Mo_leave_53 (fb_putI 5 23 dd_Mo_leave_54 rfl rfl rfl (by decide) rfl (by decide +kernel) lk_Mo_194 ?_))
    exact fb_vret dd_Mo_leave_57 rfl h

theorem Mo_step_b0 {E : fb_E} {σ : fb_S} {Q : Int → fb_S → Prop} (h : (0 ≤ ((σ.1 185) - 1) ∧ ((σ.1 185) - 1) < 8) ∧ ((0 ≤ (σ.2 55 ((σ.1 185) - 1)) ∧ (σ.2 55 ((σ.1 185) - 1)) < 2147483648) ∧ ((0 ≤ (σ.2 55 ((σ.1 185) - 1)) ∧ (σ.2 55 ((σ.1 185) - 1)) < 144) ∧ ((-2147483648 ≤ (σ.2 43 (σ.2 55 ((σ.1 185) - 1))) ∧ (σ.2 43 (σ.2 55 ((σ.1 185) - 1))) < 2147483648) ∧ ((¬ (σ.2 43 (σ.2 55 ((σ.1 185) - 1))) = 10 → (¬ (σ.2 43 (σ.2 55 ((σ.1 185) - 1))) = 11 → (¬ (σ.2 43 (σ.2 55 ((σ.1 185) - 1))) = 12 → ((σ.2 43 (σ.2 55 ((σ.1 185) - 1))) = 8 → fb_V E fb_Mo_touch 0 [.inr 5, .inl ((σ.2 55 ((σ.1 185) - 1)) / 24), .inl (σ.2 55 ((σ.1 185) - 1)), .inr 999, .inr 999, .inr 999, .inr 999] [] (fb_sg σ 184 ((σ.1 184) + (σ.2 53 (σ.2 55 ((σ.1 185) - 1))))) (fun _ s6 => Q 0 s6)) ∧ (¬ (σ.2 43 (σ.2 55 ((σ.1 185) - 1))) = 8 → (¬ (σ.2 43 (σ.2 55 ((σ.1 185) - 1))) = 9 → (¬ (σ.2 43 (σ.2 55 ((σ.1 185) - 1))) = 13 → (¬ (σ.2 43 (σ.2 55 ((σ.1 185) - 1))) = 14 → fb_V E fb_Mo_straight 0 [.inr 5, .inl ((σ.2 55 ((σ.1 185) - 1)) / 24), .inl (σ.2 55 ((σ.1 185) - 1)), .inr 999, .inr 999, .inr 999, .inr 999] [] (fb_sg σ 184 ((σ.1 184) + (σ.2 53 (σ.2 55 ((σ.1 185) - 1))))) (fun _ s8 => Q 0 s8)) ∧ ((σ.2 43 (σ.2 55 ((σ.1 185) - 1))) = 14 → fb_V E fb_Mo_leave 0 [.inr 5, .inl ((σ.2 55 ((σ.1 185) - 1)) / 24), .inl (σ.2 55 ((σ.1 185) - 1)), .inr 999, .inr 999] [] (fb_sg σ 184 ((σ.1 184) + (σ.2 53 (σ.2 55 ((σ.1 185) - 1))))) (fun _ s10 => Q 0 s10))) ∧ ((σ.2 43 (σ.2 55 ((σ.1 185) - 1))) = 13 → fb_V E fb_Mo_enter 0 [.inr 5, .inl ((σ.2 55 ((σ.1 185) - 1)) / 24), .inl (σ.2 55 ((σ.1 185) - 1)), .inr 999, .inr 999] [] (fb_sg σ 184 ((σ.1 184) + (σ.2 53 (σ.2 55 ((σ.1 185) - 1))))) (fun _ s12 => Q 0 s12))) ∧ ((σ.2 43 (σ.2 55 ((σ.1 185) - 1))) = 9 → fb_V E fb_Mo_touch 0 [.inr 5, .inl ((σ.2 55 ((σ.1 185) - 1)) / 24), .inl (σ.2 55 ((σ.1 185) - 1)), .inr 999, .inr 999, .inr 999, .inr 999] [] (fb_sg σ 184 ((σ.1 184) + (σ.2 53 (σ.2 55 ((σ.1 185) - 1))))) (fun _ s14 => Q 0 s14)))) ∧ ((σ.2 43 (σ.2 55 ((σ.1 185) - 1))) = 12 → fb_V E fb_Mo_read 0 [.inr 5, .inl ((σ.2 55 ((σ.1 185) - 1)) / 24), .inl (σ.2 44 (σ.2 55 ((σ.1 185) - 1))), .inr 999] [] (fb_sg σ 184 ((σ.1 184) + (σ.2 53 (σ.2 55 ((σ.1 185) - 1))))) (fun r15 s16 => fb_V E fb_Mo_read 0 [.inr 5, .inl ((σ.2 55 ((σ.1 185) - 1)) / 24), .inl (s16.2 45 (σ.2 55 ((σ.1 185) - 1))), .inr 999] [] s16 (fun r17 s18 => (-2147483648 ≤ r15 ∧ r15 < 2147483648) ∧ ((-2147483648 ≤ r17 ∧ r17 < 2147483648) ∧ ((r17 ≤ r15 → fb_V E fb_Mo_decide 0 [.inr 5, .inl (σ.2 55 ((σ.1 185) - 1)), .inl 0] [] s18 (fun _ s22 => Q 0 s22)) ∧ (¬ r17 ≤ r15 → fb_V E fb_Mo_decide 0 [.inr 5, .inl (σ.2 55 ((σ.1 185) - 1)), .inl 1] [] s18 (fun _ s24 => Q 0 s24)))))))) ∧ ((σ.2 43 (σ.2 55 ((σ.1 185) - 1))) = 11 → fb_V E fb_Mo_read 0 [.inr 5, .inl ((σ.2 55 ((σ.1 185) - 1)) / 24), .inl (σ.2 44 (σ.2 55 ((σ.1 185) - 1))), .inr 999] [] (fb_sg σ 184 ((σ.1 184) + (σ.2 53 (σ.2 55 ((σ.1 185) - 1))))) (fun r25 s26 => (-2147483648 ≤ r25 ∧ r25 < 2147483648) ∧ ((¬ r25 = 0 → fb_V E fb_Mo_decide 0 [.inr 5, .inl (σ.2 55 ((σ.1 185) - 1)), .inl 0] [] s26 (fun _ s29 => Q 0 s29)) ∧ (r25 = 0 → fb_V E fb_Mo_decide 0 [.inr 5, .inl (σ.2 55 ((σ.1 185) - 1)), .inl 1] [] s26 (fun _ s31 => Q 0 s31)))))) ∧ ((σ.2 43 (σ.2 55 ((σ.1 185) - 1))) = 10 → fb_V E fb_Mo_goal 0 [.inr 5, .inl (σ.2 55 ((σ.1 185) - 1))] [] (fb_sg σ 184 ((σ.1 184) + (σ.2 53 (σ.2 55 ((σ.1 185) - 1))))) (fun r32 s33 => Q 0 (fb_sm s33 55 ((σ.1 185) - 1) ((24 * ((σ.2 55 ((σ.1 185) - 1)) / 24)) + r32))))))))) : fb_V E fb_Mo_step 0 [.inr 5, .inr 999, .inr 999, .inr 999, .inr 999] [] σ Q := by
  refine fb_aload_n dd_Mo_step_0 rfl (by decide) (fb_getR 5 27 dd_Mo_step_1 rfl rfl rfl (by decide) lk_Mo_56 (fb_aload_n dd_Mo_step_4 rfl (by decide) (fb_getI (x := σ.1 185) 5 25 dd_Mo_step_5 rfl rfl rfl (by decide) lk_Mo_203 rfl (fb_iconst dd_Mo_step_8 (fb_isub dd_Mo_step_9 ?_)))))
  obtain ⟨q1, h⟩ := h
  refine fb_ild (x := σ.2 55 ((σ.1 185) - 1)) dd_Mo_step_10 rfl q1 rfl (fb_istore_n dd_Mo_step_11 rfl rfl rfl (fb_iload_n dd_Mo_step_12 rfl (fb_bipush dd_Mo_step_13 (by decide) ?_)))
  obtain ⟨q2, h⟩ := h
  refine fb_idiv dd_Mo_step_15 q2 (by decide) (fb_istore_n dd_Mo_step_16 rfl rfl rfl (fb_aload_n dd_Mo_step_17 rfl (by decide) (fb_getR 5 5 dd_Mo_step_18 rfl rfl rfl (by decide) lk_Mo_19 (fb_iload_n dd_Mo_step_21 rfl ?_))))
  obtain ⟨q3, h⟩ := h
  refine fb_ild (x := σ.2 43 (σ.2 55 ((σ.1 185) - 1))) dd_Mo_step_22 rfl q3 rfl (fb_istore_n dd_Mo_step_23 rfl rfl rfl (fb_aload_n dd_Mo_step_24 rfl (by decide) (fb_dup dd_Mo_step_25 (fb_getI (x := σ.1 184) 5 24 dd_Mo_step_26 rfl rfl rfl (by decide) lk_Mo_197 rfl (fb_aload_n dd_Mo_step_29 rfl (by decide) (fb_getR 5 19 dd_Mo_step_30 rfl rfl rfl (by decide) lk_Mo_50 (fb_iload_n dd_Mo_step_33 rfl ?_)))))))
  refine fb_ild (x := σ.2 53 (σ.2 55 ((σ.1 185) - 1))) dd_Mo_step_34 rfl q3 rfl (fb_iadd dd_Mo_step_35 (fb_putI 5 24 dd_Mo_step_36 rfl rfl rfl (by decide) rfl (by decide +kernel) lk_Mo_197 (fb_iload_n dd_Mo_step_39 rfl (fb_bipush dd_Mo_step_40 (by decide) ?_))))
  obtain ⟨q4, h⟩ := h
  refine fb_icmp_ne (tgt := 69) dd_Mo_step_42 rfl q4 (by decide) (fun hc => ?_) (fun hc => ?_)
  · replace h := h.1 hc
    refine fb_iload_n dd_Mo_step_69 rfl (fb_bipush dd_Mo_step_70 (by decide) ?_)
    refine fb_icmp_ne (tgt := 102) dd_Mo_step_72 rfl q4 (by decide) (fun hc => ?_) (fun hc => ?_)
    · replace h := h.1 hc
      refine fb_iload_n dd_Mo_step_102 rfl (fb_bipush dd_Mo_step_103 (by decide) ?_)
      refine fb_icmp_ne (tgt := 150) dd_Mo_step_105 rfl q4 (by decide) (fun hc => ?_) (fun hc => ?_)
      · replace h := h.1 hc
        refine fb_iload_n dd_Mo_step_150 rfl (fb_bipush dd_Mo_step_151 (by decide) ?_)
        refine fb_icmp_eq (tgt := 162) dd_Mo_step_153 rfl q4 (by decide) (fun hc => ?_) (fun hc => ?_)
        · replace h := h.1 hc
          refine fb_aload_n dd_Mo_step_162 rfl (by decide) (fb_iload_n dd_Mo_step_163 rfl (fb_iload_n dd_Mo_step_164 rfl ?_))
          refine fb_callVv (z := fb_Mo_touch) (k := 5) (vs := [.inl ((σ.2 55 ((σ.1 185) - 1)) / 24), .inl (σ.2 55 ((σ.1 185) - 1))]) (st := []) dd_Mo_step_165 vw_Mo_217 (by decide) rfl rfl rfl (np := 2) (by decide +kernel) rfl rfl rfl rfl rfl (fb_mono h (fun r5 s6 h => ?_))
          refine fb_goto (tgt := 207) dd_Mo_step_168 rfl ?_
          exact fb_vret dd_Mo_step_207 rfl h
        · replace h := h.2 hc
          refine fb_iload_n dd_Mo_step_156 rfl (fb_bipush dd_Mo_step_157 (by decide) ?_)
          refine fb_icmp_ne (tgt := 171) dd_Mo_step_159 rfl q4 (by decide) (fun hc => ?_) (fun hc => ?_)
          · replace h := h.1 hc
            refine fb_iload_n dd_Mo_step_171 rfl (fb_bipush dd_Mo_step_172 (by decide) ?_)
            refine fb_icmp_ne (tgt := 186) dd_Mo_step_174 rfl q4 (by decide) (fun hc => ?_) (fun hc => ?_)
            · replace h := h.1 hc
              refine fb_iload_n dd_Mo_step_186 rfl (fb_bipush dd_Mo_step_187 (by decide) ?_)
              refine fb_icmp_ne (tgt := 201) dd_Mo_step_189 rfl q4 (by decide) (fun hc => ?_) (fun hc => ?_)
              · replace h := h.1 hc
                refine fb_aload_n dd_Mo_step_201 rfl (by decide) (fb_iload_n dd_Mo_step_202 rfl (fb_iload_n dd_Mo_step_203 rfl ?_))
                refine fb_callVv (z := fb_Mo_straight) (k := 5) (vs := [.inl ((σ.2 55 ((σ.1 185) - 1)) / 24), .inl (σ.2 55 ((σ.1 185) - 1))]) (st := []) dd_Mo_step_204 vw_Mo_226 (by decide) rfl rfl rfl (np := 2) (by decide +kernel) rfl rfl rfl rfl rfl (fb_mono h (fun r7 s8 h => ?_))
                exact fb_vret dd_Mo_step_207 rfl h
              · replace h := h.2 hc
                refine fb_aload_n dd_Mo_step_192 rfl (by decide) (fb_iload_n dd_Mo_step_193 rfl (fb_iload_n dd_Mo_step_194 rfl ?_))
                refine fb_callVv (z := fb_Mo_leave) (k := 5) (vs := [.inl ((σ.2 55 ((σ.1 185) - 1)) / 24), .inl (σ.2 55 ((σ.1 185) - 1))]) (st := []) dd_Mo_step_195 vw_Mo_223 (by decide) rfl rfl rfl (np := 2) (by decide +kernel) rfl rfl rfl rfl rfl (fb_mono h (fun r9 s10 h => ?_))
                refine fb_goto (tgt := 207) dd_Mo_step_198 rfl ?_
                exact fb_vret dd_Mo_step_207 rfl h
            · replace h := h.2 hc
              refine fb_aload_n dd_Mo_step_177 rfl (by decide) (fb_iload_n dd_Mo_step_178 rfl (fb_iload_n dd_Mo_step_179 rfl ?_))
              refine fb_callVv (z := fb_Mo_enter) (k := 5) (vs := [.inl ((σ.2 55 ((σ.1 185) - 1)) / 24), .inl (σ.2 55 ((σ.1 185) - 1))]) (st := []) dd_Mo_step_180 vw_Mo_220 (by decide) rfl rfl rfl (np := 2) (by decide +kernel) rfl rfl rfl rfl rfl (fb_mono h (fun r11 s12 h => ?_))
              refine fb_goto (tgt := 207) dd_Mo_step_183 rfl ?_
              exact fb_vret dd_Mo_step_207 rfl h
          · replace h := h.2 hc
            refine fb_aload_n dd_Mo_step_162 rfl (by decide) (fb_iload_n dd_Mo_step_163 rfl (fb_iload_n dd_Mo_step_164 rfl ?_))
            refine fb_callVv (z := fb_Mo_touch) (k := 5) (vs := [.inl ((σ.2 55 ((σ.1 185) - 1)) / 24), .inl (σ.2 55 ((σ.1 185) - 1))]) (st := []) dd_Mo_step_165 vw_Mo_217 (by decide) rfl rfl rfl (np := 2) (by decide +kernel) rfl rfl rfl rfl rfl (fb_mono h (fun r13 s14 h => ?_))
            refine fb_goto (tgt := 207) dd_Mo_step_168 rfl ?_
            exact fb_vret dd_Mo_step_207 rfl h
      · replace h := h.2 hc
        refine fb_aload_n dd_Mo_step_108 rfl (by decide) (fb_iload_n dd_Mo_step_109 rfl (fb_aload_n dd_Mo_step_110 rfl (by decide) (fb_getR 5 6 dd_Mo_step_111 rfl rfl rfl (by decide) lk_Mo_22 (fb_iload_n dd_Mo_step_114 rfl (fb_ild (x := σ.2 44 (σ.2 55 ((σ.1 185) - 1))) dd_Mo_step_115 rfl q3 rfl ?_)))))
        refine fb_callVi (z := fb_Mo_read) (k := 5) (vs := [.inl ((σ.2 55 ((σ.1 185) - 1)) / 24), .inl (σ.2 44 (σ.2 55 ((σ.1 185) - 1)))]) (st := []) dd_Mo_step_116 vw_Mo_206 (by decide) ⟨_, rfl⟩ rfl rfl (np := 2) (by decide +kernel) rfl rfl rfl rfl rfl (fb_mono h (fun r15 s16 h => ?_))
        refine fb_istore dd_Mo_step_119 rfl rfl rfl (fb_aload_n dd_Mo_step_121 rfl (by decide) (fb_iload_n dd_Mo_step_122 rfl (fb_iload dd_Mo_step_123 rfl (fb_aload_n dd_Mo_step_125 rfl (by decide) (fb_iload_n dd_Mo_step_126 rfl (fb_aload_n dd_Mo_step_127 rfl (by decide) (fb_getR 5 7 dd_Mo_step_128 rfl rfl rfl (by decide) lk_Mo_25 ?_)))))))
        refine fb_iload_n dd_Mo_step_131 rfl (fb_ild (x := s16.2 45 (σ.2 55 ((σ.1 185) - 1))) dd_Mo_step_132 rfl q3 rfl ?_)
        refine fb_callVi (z := fb_Mo_read) (k := 5) (vs := [.inl ((σ.2 55 ((σ.1 185) - 1)) / 24), .inl (s16.2 45 (σ.2 55 ((σ.1 185) - 1)))]) (st := [.inl r15, .inl (σ.2 55 ((σ.1 185) - 1)), .inr 5]) dd_Mo_step_133 vw_Mo_206 (by decide) ⟨_, rfl⟩ rfl rfl (np := 2) (by decide +kernel) rfl rfl rfl rfl rfl (fb_mono h (fun r17 s18 h => ?_))
        obtain ⟨q19, h⟩ := h
        obtain ⟨q20, h⟩ := h
        refine fb_icmp_ge (tgt := 143) dd_Mo_step_136 rfl q19 q20 (fun hc => ?_) (fun hc => ?_)
        · replace h := h.1 hc
          refine fb_iconst dd_Mo_step_143 ?_
          refine fb_callVv (z := fb_Mo_decide) (k := 5) (vs := [.inl (σ.2 55 ((σ.1 185) - 1)), .inl 0]) (st := []) dd_Mo_step_144 vw_Mo_213 (by decide) rfl rfl rfl (np := 2) (by decide +kernel) rfl rfl rfl rfl rfl (fb_mono h (fun r21 s22 h => ?_))
          refine fb_goto (tgt := 207) dd_Mo_step_147 rfl ?_
          exact fb_vret dd_Mo_step_207 rfl h
        · replace h := h.2 hc
          refine fb_iconst dd_Mo_step_139 (fb_goto (tgt := 144) dd_Mo_step_140 rfl ?_)
          refine fb_callVv (z := fb_Mo_decide) (k := 5) (vs := [.inl (σ.2 55 ((σ.1 185) - 1)), .inl 1]) (st := []) dd_Mo_step_144 vw_Mo_213 (by decide) rfl rfl rfl (np := 2) (by decide +kernel) rfl rfl rfl rfl rfl (fb_mono h (fun r23 s24 h => ?_))
          refine fb_goto (tgt := 207) dd_Mo_step_147 rfl ?_
          exact fb_vret dd_Mo_step_207 rfl h
    · replace h := h.2 hc
      refine fb_aload_n dd_Mo_step_75 rfl (by decide) (fb_iload_n dd_Mo_step_76 rfl (fb_aload_n dd_Mo_step_77 rfl (by decide) (fb_iload_n dd_Mo_step_78 rfl (fb_aload_n dd_Mo_step_79 rfl (by decide) (fb_getR 5 6 dd_Mo_step_80 rfl rfl rfl (by decide) lk_Mo_22 (fb_iload_n dd_Mo_step_83 rfl (fb_ild (x := σ.2 44 (σ.2 55 ((σ.1 185) - 1))) dd_Mo_step_84 rfl q3 rfl ?_)))))))
      refine fb_callVi (z := fb_Mo_read) (k := 5) (vs := [.inl ((σ.2 55 ((σ.1 185) - 1)) / 24), .inl (σ.2 44 (σ.2 55 ((σ.1 185) - 1)))]) (st := [.inl (σ.2 55 ((σ.1 185) - 1)), .inr 5]) dd_Mo_step_85 vw_Mo_206 (by decide) ⟨_, rfl⟩ rfl rfl (np := 2) (by decide +kernel) rfl rfl rfl rfl rfl (fb_mono h (fun r25 s26 h => ?_))
      obtain ⟨q27, h⟩ := h
      refine fb_if_ne (tgt := 95) dd_Mo_step_88 rfl q27 (fun hc => ?_) (fun hc => ?_)
      · replace h := h.1 hc
        refine fb_iconst dd_Mo_step_95 ?_
        refine fb_callVv (z := fb_Mo_decide) (k := 5) (vs := [.inl (σ.2 55 ((σ.1 185) - 1)), .inl 0]) (st := []) dd_Mo_step_96 vw_Mo_213 (by decide) rfl rfl rfl (np := 2) (by decide +kernel) rfl rfl rfl rfl rfl (fb_mono h (fun r28 s29 h => ?_))
        refine fb_goto (tgt := 207) dd_Mo_step_99 rfl ?_
        exact fb_vret dd_Mo_step_207 rfl h
      · replace h := h.2 hc
        refine fb_iconst dd_Mo_step_91 (fb_goto (tgt := 96) dd_Mo_step_92 rfl ?_)
        refine fb_callVv (z := fb_Mo_decide) (k := 5) (vs := [.inl (σ.2 55 ((σ.1 185) - 1)), .inl 1]) (st := []) dd_Mo_step_96 vw_Mo_213 (by decide) rfl rfl rfl (np := 2) (by decide +kernel) rfl rfl rfl rfl rfl (fb_mono h (fun r30 s31 h => ?_))
        refine fb_goto (tgt := 207) dd_Mo_step_99 rfl ?_
        exact fb_vret dd_Mo_step_207 rfl h
  · replace h := h.2 hc
    refine fb_aload_n dd_Mo_step_45 rfl (by decide) (fb_getR 5 27 dd_Mo_step_46 rfl rfl rfl (by decide) lk_Mo_56 (fb_aload_n dd_Mo_step_49 rfl (by decide) (fb_getI (x := σ.1 185) 5 25 dd_Mo_step_50 rfl rfl rfl (by decide) lk_Mo_203 rfl (fb_iconst dd_Mo_step_53 (fb_isub dd_Mo_step_54 (fb_bipush dd_Mo_step_55 (by decide) (fb_iload_n dd_Mo_step_57 rfl ?_)))))))
    refine fb_imul dd_Mo_step_58 (fb_aload_n dd_Mo_step_59 rfl (by decide) (fb_iload_n dd_Mo_step_60 rfl ?_))
    refine fb_callVi (z := fb_Mo_goal) (k := 5) (vs := [.inl (σ.2 55 ((σ.1 185) - 1))]) (st := [.inl (24 * ((σ.2 55 ((σ.1 185) - 1)) / 24)), .inl ((σ.1 185) - 1), .inr 55]) dd_Mo_step_61 vw_Mo_98 (by decide) ⟨_, rfl⟩ rfl rfl (np := 1) (by decide +kernel) rfl rfl rfl rfl rfl (fb_mono h (fun r32 s33 h => ?_))
    refine fb_iadd dd_Mo_step_64 (fb_ist dd_Mo_step_65 rfl q1 (fb_goto (tgt := 207) dd_Mo_step_66 rfl ?_))
    exact fb_vret dd_Mo_step_207 rfl h

theorem Mo_straight_b0 {E : fb_E} {σ : fb_S} {Q : Int → fb_S → Prop} (v1 v2 : Int) (h : (0 ≤ v2 ∧ v2 < 144) ∧ ((-2147483648 ≤ (σ.2 43 v2) ∧ (σ.2 43 v2) < 2147483648) ∧ ((¬ (σ.2 43 v2) = 15 → (¬ (σ.2 43 v2) = 0 → (¬ (σ.2 43 v2) = 7 → fb_V E fb_Mo_read 0 [.inr 5, .inl v1, .inl (σ.2 45 v2), .inr 999] [] σ (fun r3 s4 => ((σ.2 43 v2) < 2 → fb_V E fb_Mo_compute 0 [.inr 5, .inl (σ.2 43 v2), .inl r3, .inl 0] [] s4 (fun r5 s6 => fb_V E fb_Mo_write 0 [.inr 5, .inl v1, .inl (s6.2 44 v2), .inl r5, .inr 999] [] s6 (fun _ s8 => (0 ≤ ((s8.1 185) - 1) ∧ ((s8.1 185) - 1) < 8) ∧ (Q 0 (fb_sm s8 55 ((s8.1 185) - 1) (v2 + 1)))))) ∧ (¬ (σ.2 43 v2) < 2 → (6 < (σ.2 43 v2) → fb_V E fb_Mo_compute 0 [.inr 5, .inl (σ.2 43 v2), .inl r3, .inl 0] [] s4 (fun r10 s11 => fb_V E fb_Mo_write 0 [.inr 5, .inl v1, .inl (s11.2 44 v2), .inl r10, .inr 999] [] s11 (fun _ s13 => (0 ≤ ((s13.1 185) - 1) ∧ ((s13.1 185) - 1) < 8) ∧ (Q 0 (fb_sm s13 55 ((s13.1 185) - 1) (v2 + 1)))))) ∧ (¬ 6 < (σ.2 43 v2) → fb_V E fb_Mo_read 0 [.inr 5, .inl v1, .inl (s4.2 46 v2), .inr 999] [] s4 (fun r15 s16 => fb_V E fb_Mo_compute 0 [.inr 5, .inl (σ.2 43 v2), .inl r3, .inl r15] [] s16 (fun r17 s18 => fb_V E fb_Mo_write 0 [.inr 5, .inl v1, .inl (s18.2 44 v2), .inl r17, .inr 999] [] s18 (fun _ s20 => (0 ≤ ((s20.1 185) - 1) ∧ ((s20.1 185) - 1) < 8) ∧ (Q 0 (fb_sm s20 55 ((s20.1 185) - 1) (v2 + 1)))))))))) ∧ ((σ.2 43 v2) = 7 → fb_V E fb_Mo_read 0 [.inr 5, .inl v1, .inl (σ.2 44 v2), .inr 999] [] σ (fun r22 s23 => ((σ.2 43 v2) < 2 → fb_V E fb_Mo_compute 0 [.inr 5, .inl (σ.2 43 v2), .inl r22, .inl 0] [] s23 (fun r24 s25 => fb_V E fb_Mo_write 0 [.inr 5, .inl v1, .inl (s25.2 44 v2), .inl r24, .inr 999] [] s25 (fun _ s27 => (0 ≤ ((s27.1 185) - 1) ∧ ((s27.1 185) - 1) < 8) ∧ (Q 0 (fb_sm s27 55 ((s27.1 185) - 1) (v2 + 1)))))) ∧ (¬ (σ.2 43 v2) < 2 → (6 < (σ.2 43 v2) → fb_V E fb_Mo_compute 0 [.inr 5, .inl (σ.2 43 v2), .inl r22, .inl 0] [] s23 (fun r29 s30 => fb_V E fb_Mo_write 0 [.inr 5, .inl v1, .inl (s30.2 44 v2), .inl r29, .inr 999] [] s30 (fun _ s32 => (0 ≤ ((s32.1 185) - 1) ∧ ((s32.1 185) - 1) < 8) ∧ (Q 0 (fb_sm s32 55 ((s32.1 185) - 1) (v2 + 1)))))) ∧ (¬ 6 < (σ.2 43 v2) → fb_V E fb_Mo_read 0 [.inr 5, .inl v1, .inl (s23.2 46 v2), .inr 999] [] s23 (fun r34 s35 => fb_V E fb_Mo_compute 0 [.inr 5, .inl (σ.2 43 v2), .inl r22, .inl r34] [] s35 (fun r36 s37 => fb_V E fb_Mo_write 0 [.inr 5, .inl v1, .inl (s37.2 44 v2), .inl r36, .inr 999] [] s37 (fun _ s39 => (0 ≤ ((s39.1 185) - 1) ∧ ((s39.1 185) - 1) < 8) ∧ (Q 0 (fb_sm s39 55 ((s39.1 185) - 1) (v2 + 1))))))))))) ∧ ((σ.2 43 v2) = 0 → fb_V E fb_Mo_write 0 [.inr 5, .inl v1, .inl (σ.2 44 v2), .inl (σ.2 45 v2), .inr 999] [] σ (fun _ s42 => (0 ≤ ((s42.1 185) - 1) ∧ ((s42.1 185) - 1) < 8) ∧ (Q 0 (fb_sm s42 55 ((s42.1 185) - 1) (v2 + 1)))))) ∧ ((σ.2 43 v2) = 15 → fb_V E fb_Mo_place 0 [.inr 5, .inl v1, .inl (σ.2 44 v2), .inr 999, .inr 999] [] σ (fun r44 s45 => fb_V E fb_Mo_straight 29 [.inr 5, .inl v1, .inl v2, .inr 999, .inl r44, .inl 0, .inr 999] [] s45 Q))))) : fb_V E fb_Mo_straight 0 [.inr 5, .inl v1, .inl v2, .inr 999, .inr 999, .inr 999, .inr 999] [] σ Q := by
  refine fb_aload_n dd_Mo_straight_0 rfl (by decide) (fb_getR 5 5 dd_Mo_straight_1 rfl rfl rfl (by decide) lk_Mo_19 (fb_iload_n dd_Mo_straight_4 rfl ?_))
  obtain ⟨q1, h⟩ := h
  refine fb_ild (x := σ.2 43 v2) dd_Mo_straight_5 rfl q1 rfl (fb_istore_n dd_Mo_straight_6 rfl rfl rfl (fb_iload_n dd_Mo_straight_7 rfl (fb_bipush dd_Mo_straight_8 (by decide) ?_)))
  obtain ⟨q2, h⟩ := h
  refine fb_icmp_ne (tgt := 73) dd_Mo_straight_10 rfl q2 (by decide) (fun hc => ?_) (fun hc => ?_)
  · replace h := h.1 hc
    refine fb_iload_n dd_Mo_straight_73 rfl ?_
    refine fb_if_ne (tgt := 97) dd_Mo_straight_74 rfl q2 (fun hc => ?_) (fun hc => ?_)
    · replace h := h.1 hc
      refine fb_aload_n dd_Mo_straight_97 rfl (by decide) (fb_iload_n dd_Mo_straight_98 rfl (fb_iload_n dd_Mo_straight_99 rfl (fb_bipush dd_Mo_straight_100 (by decide) ?_)))
      refine fb_icmp_ne (tgt := 114) dd_Mo_straight_102 rfl q2 (by decide) (fun hc => ?_) (fun hc => ?_)
      · replace h := h.1 hc
        refine fb_aload_n dd_Mo_straight_114 rfl (by decide) (fb_getR 5 7 dd_Mo_straight_115 rfl rfl rfl (by decide) lk_Mo_25 (fb_iload_n dd_Mo_straight_118 rfl (fb_ild (x := σ.2 45 v2) dd_Mo_straight_119 rfl q1 rfl ?_)))
        refine fb_callVi (z := fb_Mo_read) (k := 5) (vs := [.inl v1, .inl (σ.2 45 v2)]) (st := []) dd_Mo_straight_120 vw_Mo_206 (by decide) ⟨_, rfl⟩ rfl rfl (np := 2) (by decide +kernel) rfl rfl rfl rfl rfl (fb_mono h (fun r3 s4 h => ?_))
        refine fb_istore dd_Mo_straight_123 rfl rfl rfl (fb_iload_n dd_Mo_straight_125 rfl (fb_iconst dd_Mo_straight_126 ?_))
        refine fb_icmp_lt (tgt := 150) dd_Mo_straight_127 rfl q2 (by decide) (fun hc => ?_) (fun hc => ?_)
        · replace h := h.1 hc
          refine fb_iconst dd_Mo_straight_150 (fb_istore dd_Mo_straight_151 rfl rfl rfl (fb_aload_n dd_Mo_straight_153 rfl (by decide) (fb_iload_n dd_Mo_straight_154 rfl (fb_iload dd_Mo_straight_155 rfl (fb_iload dd_Mo_straight_157 rfl ?_)))))
          refine fb_callVi (z := fb_Mo_compute) (k := 5) (vs := [.inl (σ.2 43 v2), .inl r3, .inl 0]) (st := []) dd_Mo_straight_159 vw_Mo_232 (by decide) ⟨_, rfl⟩ rfl rfl (np := 3) (by decide +kernel) rfl rfl rfl rfl rfl (fb_mono h (fun r5 s6 h => ?_))
          refine fb_istore dd_Mo_straight_162 rfl rfl rfl (fb_aload_n dd_Mo_straight_164 rfl (by decide) (fb_iload_n dd_Mo_straight_165 rfl (fb_aload_n dd_Mo_straight_166 rfl (by decide) (fb_getR 5 6 dd_Mo_straight_167 rfl rfl rfl (by decide) lk_Mo_22 (fb_iload_n dd_Mo_straight_170 rfl (fb_ild (x := s6.2 44 v2) dd_Mo_straight_171 rfl q1 rfl (fb_iload dd_Mo_straight_172 rfl ?_)))))))
          refine fb_callVv (z := fb_Mo_write) (k := 5) (vs := [.inl v1, .inl (s6.2 44 v2), .inl r5]) (st := []) dd_Mo_straight_174 vw_Mo_209 (by decide) rfl rfl rfl (np := 3) (by decide +kernel) rfl rfl rfl rfl rfl (fb_mono h (fun r7 s8 h => ?_))
          refine fb_aload_n dd_Mo_straight_177 rfl (by decide) (fb_getR 5 27 dd_Mo_straight_178 rfl rfl rfl (by decide) lk_Mo_56 (fb_aload_n dd_Mo_straight_181 rfl (by decide) (fb_getI (x := s8.1 185) 5 25 dd_Mo_straight_182 rfl rfl rfl (by decide) lk_Mo_203 rfl (fb_iconst dd_Mo_straight_185 (fb_isub dd_Mo_straight_186 (fb_iload_n dd_Mo_straight_187 rfl (fb_iconst dd_Mo_straight_188 ?_)))))))
          refine fb_iadd dd_Mo_straight_189 ?_
          obtain ⟨q9, h⟩ := h
          refine fb_ist dd_Mo_straight_190 rfl q9 ?_
          exact fb_vret dd_Mo_straight_191 rfl h
        · replace h := h.2 hc
          refine fb_iload_n dd_Mo_straight_130 rfl (fb_bipush dd_Mo_straight_131 (by decide) ?_)
          refine fb_icmp_gt (tgt := 150) dd_Mo_straight_133 rfl q2 (by decide) (fun hc => ?_) (fun hc => ?_)
          · replace h := h.1 hc
            refine fb_iconst dd_Mo_straight_150 (fb_istore dd_Mo_straight_151 rfl rfl rfl (fb_aload_n dd_Mo_straight_153 rfl (by decide) (fb_iload_n dd_Mo_straight_154 rfl (fb_iload dd_Mo_straight_155 rfl (fb_iload dd_Mo_straight_157 rfl ?_)))))
            refine fb_callVi (z := fb_Mo_compute) (k := 5) (vs := [.inl (σ.2 43 v2), .inl r3, .inl 0]) (st := []) dd_Mo_straight_159 vw_Mo_232 (by decide) ⟨_, rfl⟩ rfl rfl (np := 3) (by decide +kernel) rfl rfl rfl rfl rfl (fb_mono h (fun r10 s11 h => ?_))
            refine fb_istore dd_Mo_straight_162 rfl rfl rfl (fb_aload_n dd_Mo_straight_164 rfl (by decide) (fb_iload_n dd_Mo_straight_165 rfl (fb_aload_n dd_Mo_straight_166 rfl (by decide) (fb_getR 5 6 dd_Mo_straight_167 rfl rfl rfl (by decide) lk_Mo_22 (fb_iload_n dd_Mo_straight_170 rfl (fb_ild (x := s11.2 44 v2) dd_Mo_straight_171 rfl q1 rfl (fb_iload dd_Mo_straight_172 rfl ?_)))))))
            refine fb_callVv (z := fb_Mo_write) (k := 5) (vs := [.inl v1, .inl (s11.2 44 v2), .inl r10]) (st := []) dd_Mo_straight_174 vw_Mo_209 (by decide) rfl rfl rfl (np := 3) (by decide +kernel) rfl rfl rfl rfl rfl (fb_mono h (fun r12 s13 h => ?_))
            refine fb_aload_n dd_Mo_straight_177 rfl (by decide) (fb_getR 5 27 dd_Mo_straight_178 rfl rfl rfl (by decide) lk_Mo_56 (fb_aload_n dd_Mo_straight_181 rfl (by decide) (fb_getI (x := s13.1 185) 5 25 dd_Mo_straight_182 rfl rfl rfl (by decide) lk_Mo_203 rfl (fb_iconst dd_Mo_straight_185 (fb_isub dd_Mo_straight_186 (fb_iload_n dd_Mo_straight_187 rfl (fb_iconst dd_Mo_straight_188 ?_)))))))
            refine fb_iadd dd_Mo_straight_189 ?_
            obtain ⟨q14, h⟩ := h
            refine fb_ist dd_Mo_straight_190 rfl q14 ?_
            exact fb_vret dd_Mo_straight_191 rfl h
          · replace h := h.2 hc
            refine fb_aload_n dd_Mo_straight_136 rfl (by decide) (fb_iload_n dd_Mo_straight_137 rfl (fb_aload_n dd_Mo_straight_138 rfl (by decide) (fb_getR 5 8 dd_Mo_straight_139 rfl rfl rfl (by decide) lk_Mo_28 (fb_iload_n dd_Mo_straight_142 rfl (fb_ild (x := s4.2 46 v2) dd_Mo_straight_143 rfl q1 rfl ?_)))))
            refine fb_callVi (z := fb_Mo_read) (k := 5) (vs := [.inl v1, .inl (s4.2 46 v2)]) (st := []) dd_Mo_straight_144 vw_Mo_206 (by decide) ⟨_, rfl⟩ rfl rfl (np := 2) (by decide +kernel) rfl rfl rfl rfl rfl (fb_mono h (fun r15 s16 h => ?_))
            refine fb_goto (tgt := 151) dd_Mo_straight_147 rfl (fb_istore dd_Mo_straight_151 rfl rfl rfl (fb_aload_n dd_Mo_straight_153 rfl (by decide) (fb_iload_n dd_Mo_straight_154 rfl (fb_iload dd_Mo_straight_155 rfl (fb_iload dd_Mo_straight_157 rfl ?_)))))
            refine fb_callVi (z := fb_Mo_compute) (k := 5) (vs := [.inl (σ.2 43 v2), .inl r3, .inl r15]) (st := []) dd_Mo_straight_159 vw_Mo_232 (by decide) ⟨_, rfl⟩ rfl rfl (np := 3) (by decide +kernel) rfl rfl rfl rfl rfl (fb_mono h (fun r17 s18 h => ?_))
            refine fb_istore dd_Mo_straight_162 rfl rfl rfl (fb_aload_n dd_Mo_straight_164 rfl (by decide) (fb_iload_n dd_Mo_straight_165 rfl (fb_aload_n dd_Mo_straight_166 rfl (by decide) (fb_getR 5 6 dd_Mo_straight_167 rfl rfl rfl (by decide) lk_Mo_22 (fb_iload_n dd_Mo_straight_170 rfl (fb_ild (x := s18.2 44 v2) dd_Mo_straight_171 rfl q1 rfl (fb_iload dd_Mo_straight_172 rfl ?_)))))))
            refine fb_callVv (z := fb_Mo_write) (k := 5) (vs := [.inl v1, .inl (s18.2 44 v2), .inl r17]) (st := []) dd_Mo_straight_174 vw_Mo_209 (by decide) rfl rfl rfl (np := 3) (by decide +kernel) rfl rfl rfl rfl rfl (fb_mono h (fun r19 s20 h => ?_))
            refine fb_aload_n dd_Mo_straight_177 rfl (by decide) (fb_getR 5 27 dd_Mo_straight_178 rfl rfl rfl (by decide) lk_Mo_56 (fb_aload_n dd_Mo_straight_181 rfl (by decide) (fb_getI (x := s20.1 185) 5 25 dd_Mo_straight_182 rfl rfl rfl (by decide) lk_Mo_203 rfl (fb_iconst dd_Mo_straight_185 (fb_isub dd_Mo_straight_186 (fb_iload_n dd_Mo_straight_187 rfl (fb_iconst dd_Mo_straight_188 ?_)))))))
            refine fb_iadd dd_Mo_straight_189 ?_
            obtain ⟨q21, h⟩ := h
            refine fb_ist dd_Mo_straight_190 rfl q21 ?_
            exact fb_vret dd_Mo_straight_191 rfl h
      · replace h := h.2 hc
        refine fb_aload_n dd_Mo_straight_105 rfl (by decide) (fb_getR 5 6 dd_Mo_straight_106 rfl rfl rfl (by decide) lk_Mo_22 (fb_iload_n dd_Mo_straight_109 rfl (fb_ild (x := σ.2 44 v2) dd_Mo_straight_110 rfl q1 rfl (fb_goto (tgt := 120) dd_Mo_straight_111 rfl ?_))))
        refine fb_callVi (z := fb_Mo_read) (k := 5) (vs := [.inl v1, .inl (σ.2 44 v2)]) (st := []) dd_Mo_straight_120 vw_Mo_206 (by decide) ⟨_, rfl⟩ rfl rfl (np := 2) (by decide +kernel) rfl rfl rfl rfl rfl (fb_mono h (fun r22 s23 h => ?_))
        refine fb_istore dd_Mo_straight_123 rfl rfl rfl (fb_iload_n dd_Mo_straight_125 rfl (fb_iconst dd_Mo_straight_126 ?_))
        refine fb_icmp_lt (tgt := 150) dd_Mo_straight_127 rfl q2 (by decide) (fun hc => ?_) (fun hc => ?_)
        · replace h := h.1 hc
          refine fb_iconst dd_Mo_straight_150 (fb_istore dd_Mo_straight_151 rfl rfl rfl (fb_aload_n dd_Mo_straight_153 rfl (by decide) (fb_iload_n dd_Mo_straight_154 rfl (fb_iload dd_Mo_straight_155 rfl (fb_iload dd_Mo_straight_157 rfl ?_)))))
          refine fb_callVi (z := fb_Mo_compute) (k := 5) (vs := [.inl (σ.2 43 v2), .inl r22, .inl 0]) (st := []) dd_Mo_straight_159 vw_Mo_232 (by decide) ⟨_, rfl⟩ rfl rfl (np := 3) (by decide +kernel) rfl rfl rfl rfl rfl (fb_mono h (fun r24 s25 h => ?_))
          refine fb_istore dd_Mo_straight_162 rfl rfl rfl (fb_aload_n dd_Mo_straight_164 rfl (by decide) (fb_iload_n dd_Mo_straight_165 rfl (fb_aload_n dd_Mo_straight_166 rfl (by decide) (fb_getR 5 6 dd_Mo_straight_167 rfl rfl rfl (by decide) lk_Mo_22 (fb_iload_n dd_Mo_straight_170 rfl (fb_ild (x := s25.2 44 v2) dd_Mo_straight_171 rfl q1 rfl (fb_iload dd_Mo_straight_172 rfl ?_)))))))
          refine fb_callVv (z := fb_Mo_write) (k := 5) (vs := [.inl v1, .inl (s25.2 44 v2), .inl r24]) (st := []) dd_Mo_straight_174 vw_Mo_209 (by decide) rfl rfl rfl (np := 3) (by decide +kernel) rfl rfl rfl rfl rfl (fb_mono h (fun r26 s27 h => ?_))
          refine fb_aload_n dd_Mo_straight_177 rfl (by decide) (fb_getR 5 27 dd_Mo_straight_178 rfl rfl rfl (by decide) lk_Mo_56 (fb_aload_n dd_Mo_straight_181 rfl (by decide) (fb_getI (x := s27.1 185) 5 25 dd_Mo_straight_182 rfl rfl rfl (by decide) lk_Mo_203 rfl (fb_iconst dd_Mo_straight_185 (fb_isub dd_Mo_straight_186 (fb_iload_n dd_Mo_straight_187 rfl (fb_iconst dd_Mo_straight_188 ?_)))))))
          refine fb_iadd dd_Mo_straight_189 ?_
          obtain ⟨q28, h⟩ := h
          refine fb_ist dd_Mo_straight_190 rfl q28 ?_
          exact fb_vret dd_Mo_straight_191 rfl h
        · replace h := h.2 hc
          refine fb_iload_n dd_Mo_straight_130 rfl (fb_bipush dd_Mo_straight_131 (by decide) ?_)
          refine fb_icmp_gt (tgt := 150) dd_Mo_straight_133 rfl q2 (by decide) (fun hc => ?_) (fun hc => ?_)
          · replace h := h.1 hc
            refine fb_iconst dd_Mo_straight_150 (fb_istore dd_Mo_straight_151 rfl rfl rfl (fb_aload_n dd_Mo_straight_153 rfl (by decide) (fb_iload_n dd_Mo_straight_154 rfl (fb_iload dd_Mo_straight_155 rfl (fb_iload dd_Mo_straight_157 rfl ?_)))))
            refine fb_callVi (z := fb_Mo_compute) (k := 5) (vs := [.inl (σ.2 43 v2), .inl r22, .inl 0]) (st := []) dd_Mo_straight_159 vw_Mo_232 (by decide) ⟨_, rfl⟩ rfl rfl (np := 3) (by decide +kernel) rfl rfl rfl rfl rfl (fb_mono h (fun r29 s30 h => ?_))
            refine fb_istore dd_Mo_straight_162 rfl rfl rfl (fb_aload_n dd_Mo_straight_164 rfl (by decide) (fb_iload_n dd_Mo_straight_165 rfl (fb_aload_n dd_Mo_straight_166 rfl (by decide) (fb_getR 5 6 dd_Mo_straight_167 rfl rfl rfl (by decide) lk_Mo_22 (fb_iload_n dd_Mo_straight_170 rfl (fb_ild (x := s30.2 44 v2) dd_Mo_straight_171 rfl q1 rfl (fb_iload dd_Mo_straight_172 rfl ?_)))))))
            refine fb_callVv (z := fb_Mo_write) (k := 5) (vs := [.inl v1, .inl (s30.2 44 v2), .inl r29]) (st := []) dd_Mo_straight_174 vw_Mo_209 (by decide) rfl rfl rfl (np := 3) (by decide +kernel) rfl rfl rfl rfl rfl (fb_mono h (fun r31 s32 h => ?_))
            refine fb_aload_n dd_Mo_straight_177 rfl (by decide) (fb_getR 5 27 dd_Mo_straight_178 rfl rfl rfl (by decide) lk_Mo_56 (fb_aload_n dd_Mo_straight_181 rfl (by decide) (fb_getI (x := s32.1 185) 5 25 dd_Mo_straight_182 rfl rfl rfl (by decide) lk_Mo_203 rfl (fb_iconst dd_Mo_straight_185 (fb_isub dd_Mo_straight_186 (fb_iload_n dd_Mo_straight_187 rfl (fb_iconst dd_Mo_straight_188 ?_)))))))
            refine fb_iadd dd_Mo_straight_189 ?_
            obtain ⟨q33, h⟩ := h
            refine fb_ist dd_Mo_straight_190 rfl q33 ?_
            exact fb_vret dd_Mo_straight_191 rfl h
          · replace h := h.2 hc
            refine fb_aload_n dd_Mo_straight_136 rfl (by decide) (fb_iload_n dd_Mo_straight_137 rfl (fb_aload_n dd_Mo_straight_138 rfl (by decide) (fb_getR 5 8 dd_Mo_straight_139 rfl rfl rfl (by decide) lk_Mo_28 (fb_iload_n dd_Mo_straight_142 rfl (fb_ild (x := s23.2 46 v2) dd_Mo_straight_143 rfl q1 rfl ?_)))))
            refine fb_callVi (z := fb_Mo_read) (k := 5) (vs := [.inl v1, .inl (s23.2 46 v2)]) (st := []) dd_Mo_straight_144 vw_Mo_206 (by decide) ⟨_, rfl⟩ rfl rfl (np := 2) (by decide +kernel) rfl rfl rfl rfl rfl (fb_mono h (fun r34 s35 h => ?_))
            refine fb_goto (tgt := 151) dd_Mo_straight_147 rfl (fb_istore dd_Mo_straight_151 rfl rfl rfl (fb_aload_n dd_Mo_straight_153 rfl (by decide) (fb_iload_n dd_Mo_straight_154 rfl (fb_iload dd_Mo_straight_155 rfl (fb_iload dd_Mo_straight_157 rfl ?_)))))
            refine fb_callVi (z := fb_Mo_compute) (k := 5) (vs := [.inl (σ.2 43 v2), .inl r22, .inl r34]) (st := []) dd_Mo_straight_159 vw_Mo_232 (by decide) ⟨_, rfl⟩ rfl rfl (np := 3) (by decide +kernel) rfl rfl rfl rfl rfl (fb_mono h (fun r36 s37 h => ?_))
            refine fb_istore dd_Mo_straight_162 rfl rfl rfl (fb_aload_n dd_Mo_straight_164 rfl (by decide) (fb_iload_n dd_Mo_straight_165 rfl (fb_aload_n dd_Mo_straight_166 rfl (by decide) (fb_getR 5 6 dd_Mo_straight_167 rfl rfl rfl (by decide) lk_Mo_22 (fb_iload_n dd_Mo_straight_170 rfl (fb_ild (x := s37.2 44 v2) dd_Mo_straight_171 rfl q1 rfl (fb_iload dd_Mo_straight_172 rfl ?_)))))))
            refine fb_callVv (z := fb_Mo_write) (k := 5) (vs := [.inl v1, .inl (s37.2 44 v2), .inl r36]) (st := []) dd_Mo_straight_174 vw_Mo_209 (by decide) rfl rfl rfl (np := 3) (by decide +kernel) rfl rfl rfl rfl rfl (fb_mono h (fun r38 s39 h => ?_))
            refine fb_aload_n dd_Mo_straight_177 rfl (by decide) (fb_getR 5 27 dd_Mo_straight_178 rfl rfl rfl (by decide) lk_Mo_56 (fb_aload_n dd_Mo_straight_181 rfl (by decide) (fb_getI (x := s39.1 185) 5 25 dd_Mo_straight_182 rfl rfl rfl (by decide) lk_Mo_203 rfl (fb_iconst dd_Mo_straight_185 (fb_isub dd_Mo_straight_186 (fb_iload_n dd_Mo_straight_187 rfl (fb_iconst dd_Mo_straight_188 ?_)))))))
            refine fb_iadd dd_Mo_straight_189 ?_
            obtain ⟨q40, h⟩ := h
            refine fb_ist dd_Mo_straight_190 rfl q40 ?_
            exact fb_vret dd_Mo_straight_191 rfl h
    · replace h := h.2 hc
      refine fb_aload_n dd_Mo_straight_77 rfl (by decide) (fb_iload_n dd_Mo_straight_78 rfl (fb_aload_n dd_Mo_straight_79 rfl (by decide) (fb_getR 5 6 dd_Mo_straight_80 rfl rfl rfl (by decide) lk_Mo_22 (fb_iload_n dd_Mo_straight_83 rfl (fb_ild (x := σ.2 44 v2) dd_Mo_straight_84 rfl q1 rfl (fb_aload_n dd_Mo_straight_85 rfl (by decide) (fb_getR 5 7 dd_Mo_straight_86 rfl rfl rfl (by decide) lk_Mo_25 ?_)))))))
      refine fb_iload_n dd_Mo_straight_89 rfl (fb_ild (x := σ.2 45 v2) dd_Mo_straight_90 rfl q1 rfl ?_)
      refine fb_callVv (z := fb_Mo_write) (k := 5) (vs := [.inl v1, .inl (σ.2 44 v2), .inl (σ.2 45 v2)]) (st := []) dd_Mo_straight_91 vw_Mo_209 (by decide) rfl rfl rfl (np := 3) (by decide +kernel) rfl rfl rfl rfl rfl (fb_mono h (fun r41 s42 h => ?_))
      refine fb_goto (tgt := 177) dd_Mo_straight_94 rfl (fb_aload_n dd_Mo_straight_177 rfl (by decide) (fb_getR 5 27 dd_Mo_straight_178 rfl rfl rfl (by decide) lk_Mo_56 (fb_aload_n dd_Mo_straight_181 rfl (by decide) (fb_getI (x := s42.1 185) 5 25 dd_Mo_straight_182 rfl rfl rfl (by decide) lk_Mo_203 rfl (fb_iconst dd_Mo_straight_185 (fb_isub dd_Mo_straight_186 (fb_iload_n dd_Mo_straight_187 rfl ?_)))))))
      refine fb_iconst dd_Mo_straight_188 (fb_iadd dd_Mo_straight_189 ?_)
      obtain ⟨q43, h⟩ := h
      refine fb_ist dd_Mo_straight_190 rfl q43 ?_
      exact fb_vret dd_Mo_straight_191 rfl h
  · replace h := h.2 hc
    refine fb_aload_n dd_Mo_straight_13 rfl (by decide) (fb_iload_n dd_Mo_straight_14 rfl (fb_aload_n dd_Mo_straight_15 rfl (by decide) (fb_getR 5 6 dd_Mo_straight_16 rfl rfl rfl (by decide) lk_Mo_22 (fb_iload_n dd_Mo_straight_19 rfl (fb_ild (x := σ.2 44 v2) dd_Mo_straight_20 rfl q1 rfl ?_)))))
    refine fb_callVi (z := fb_Mo_place) (k := 5) (vs := [.inl v1, .inl (σ.2 44 v2)]) (st := []) dd_Mo_straight_21 vw_Mo_105 (by decide) ⟨_, rfl⟩ rfl rfl (np := 2) (by decide +kernel) rfl rfl rfl rfl rfl (fb_mono h (fun r44 s45 h => ?_))
    refine fb_istore dd_Mo_straight_24 rfl rfl rfl (fb_iconst dd_Mo_straight_26 (fb_istore dd_Mo_straight_27 rfl rfl rfl ?_))
    exact fb_drop (fb_sub_k (fb_sub_k (fb_sub_k (fb_sub_d (fb_sub_k (fb_sub_k (fb_sub_k fb_sub_0))))))) h
theorem Mo_straight_b29 {E : fb_E} {σ : fb_S} {Q : Int → fb_S → Prop} (v1 v2 v4 v5 : Int) (h : (0 ≤ v2 ∧ v2 < 144) ∧ ((0 ≤ ((6 * v1) + (σ.2 44 v2)) ∧ ((6 * v1) + (σ.2 44 v2)) < 36) ∧ ((-2147483648 ≤ v5 ∧ v5 < 2147483648) ∧ ((-2147483648 ≤ (σ.2 42 ((6 * v1) + (σ.2 44 v2))) ∧ (σ.2 42 ((6 * v1) + (σ.2 44 v2))) < 2147483648) ∧ (((σ.2 42 ((6 * v1) + (σ.2 44 v2))) ≤ v5 → (0 ≤ ((σ.1 185) - 1) ∧ ((σ.1 185) - 1) < 8) ∧ (Q 0 (fb_sm σ 55 ((σ.1 185) - 1) (v2 + 1)))) ∧ (¬ (σ.2 42 ((6 * v1) + (σ.2 44 v2))) ≤ v5 → (0 ≤ (v4 + v5) ∧ (v4 + v5) < 128) ∧ (fb_V E fb_Mo_send 0 [.inr 5, .inl (σ.2 56 (v4 + v5))] [] σ (fun _ s8 => fb_V E fb_Mo_straight 29 [.inr 5, .inl v1, .inl v2, .inr 999, .inl v4, .inl (v5 + 1), .inr 999] [] s8 Q)))))))) : fb_V E fb_Mo_straight 29 [.inr 5, .inl v1, .inl v2, .inr 999, .inl v4, .inl v5, .inr 999] [] σ Q := by
  refine fb_iload dd_Mo_straight_29 rfl (fb_aload_n dd_Mo_straight_31 rfl (by decide) (fb_getR 5 4 dd_Mo_straight_32 rfl rfl rfl (by decide) lk_Mo_16 (fb_bipush dd_Mo_straight_35 (by decide) (fb_iload_n dd_Mo_straight_37 rfl (fb_imul dd_Mo_straight_38 (fb_aload_n dd_Mo_straight_39 rfl (by decide) (fb_getR 5 6 dd_Mo_straight_40 rfl rfl rfl (by decide) lk_Mo_22 ?_)))))))
  refine fb_iload_n dd_Mo_straight_43 rfl ?_
  obtain ⟨q1, h⟩ := h
  refine fb_ild (x := σ.2 44 v2) dd_Mo_straight_44 rfl q1 rfl (fb_iadd dd_Mo_straight_45 ?_)
  obtain ⟨q2, h⟩ := h
  refine fb_ild (x := σ.2 42 ((6 * v1) + (σ.2 44 v2))) dd_Mo_straight_46 rfl q2 rfl ?_
  obtain ⟨q3, h⟩ := h
  obtain ⟨q4, h⟩ := h
  refine fb_icmp_ge (tgt := 70) dd_Mo_straight_47 rfl q3 q4 (fun hc => ?_) (fun hc => ?_)
  · replace h := h.1 hc
    refine fb_goto (tgt := 177) dd_Mo_straight_70 rfl (fb_aload_n dd_Mo_straight_177 rfl (by decide) (fb_getR 5 27 dd_Mo_straight_178 rfl rfl rfl (by decide) lk_Mo_56 (fb_aload_n dd_Mo_straight_181 rfl (by decide) (fb_getI (x := σ.1 185) 5 25 dd_Mo_straight_182 rfl rfl rfl (by decide) lk_Mo_203 rfl (fb_iconst dd_Mo_straight_185 (fb_isub dd_Mo_straight_186 (fb_iload_n dd_Mo_straight_187 rfl ?_)))))))
    refine fb_iconst dd_Mo_straight_188 (fb_iadd dd_Mo_straight_189 ?_)
    obtain ⟨q5, h⟩ := h
    refine fb_ist dd_Mo_straight_190 rfl q5 ?_
    exact fb_vret dd_Mo_straight_191 rfl h
  · replace h := h.2 hc
    refine fb_aload_n dd_Mo_straight_50 rfl (by decide) (fb_aload_n dd_Mo_straight_51 rfl (by decide) (fb_getR 5 28 dd_Mo_straight_52 rfl rfl rfl (by decide) lk_Mo_59 (fb_iload dd_Mo_straight_55 rfl (fb_iload dd_Mo_straight_57 rfl (fb_iadd dd_Mo_straight_59 ?_)))))
    obtain ⟨q6, h⟩ := h
    refine fb_ild (x := σ.2 56 (v4 + v5)) dd_Mo_straight_60 rfl q6 rfl ?_
    refine fb_callVv (z := fb_Mo_send) (k := 5) (vs := [.inl (σ.2 56 (v4 + v5))]) (st := []) dd_Mo_straight_61 vw_Mo_229 (by decide) rfl rfl rfl (np := 1) (by decide +kernel) rfl rfl rfl rfl rfl (fb_mono h (fun r7 s8 h => ?_))
    refine fb_iinc dd_Mo_straight_64 rfl rfl rfl (fb_goto (tgt := 29) dd_Mo_straight_67 rfl ?_)
    exact h

theorem Mo_run_b0 {E : fb_E} {σ : fb_S} {Q : Int → fb_S → Prop} (v1 : Int) (h : (-2147483648 ≤ (σ.1 182) ∧ (σ.1 182) < 2147483648) ∧ (((σ.1 182) = 0 → Q (-1) σ) ∧ (¬ (σ.1 182) = 0 → (-2147483648 ≤ v1 ∧ v1 < 2147483648) ∧ ((v1 < 0 → Q (-1) σ) ∧ (¬ v1 < 0 → (v1 ≤ 1000 → fb_V E fb_Mo_run 22 [.inr 5, .inl v1, .inl 0] [] σ Q) ∧ (¬ v1 ≤ 1000 → Q (-1) σ)))))) : fb_V E fb_Mo_run 0 [.inr 5, .inl v1, .inr 999] [] σ Q := by
  refine fb_aload_n dd_Mo_run_0 rfl (by decide) (fb_getI (x := σ.1 182) 5 22 dd_Mo_run_1 rfl rfl rfl (by decide) lk_Mo_69 rfl ?_)
  obtain ⟨q1, h⟩ := h
  refine fb_if_eq (tgt := 18) dd_Mo_run_4 rfl q1 (fun hc => ?_) (fun hc => ?_)
  · replace h := h.1 hc
    refine fb_iconst dd_Mo_run_18 ?_
    exact fb_iret dd_Mo_run_19 rfl h
  · replace h := h.2 hc
    refine fb_iload_n dd_Mo_run_7 rfl ?_
    obtain ⟨q2, h⟩ := h
    refine fb_if_lt (tgt := 18) dd_Mo_run_8 rfl q2 (fun hc => ?_) (fun hc => ?_)
    · replace h := h.1 hc
      refine fb_iconst dd_Mo_run_18 ?_
      exact fb_iret dd_Mo_run_19 rfl h
    · replace h := h.2 hc
      refine fb_iload_n dd_Mo_run_11 rfl (fb_sipush dd_Mo_run_12 (by decide) ?_)
      refine fb_icmp_le (tgt := 20) dd_Mo_run_15 rfl q2 (by decide) (fun hc => ?_) (fun hc => ?_)
      · replace h := h.1 hc
        refine fb_iconst dd_Mo_run_20 (fb_istore_n dd_Mo_run_21 rfl rfl rfl ?_)
        exact h
      · replace h := h.2 hc
        refine fb_iconst dd_Mo_run_18 ?_
        exact fb_iret dd_Mo_run_19 rfl h
theorem Mo_run_b22 {E : fb_E} {σ : fb_S} {Q : Int → fb_S → Prop} (v1 v2 : Int) (h : (-2147483648 ≤ v2 ∧ v2 < 2147483648) ∧ ((-2147483648 ≤ v1 ∧ v1 < 2147483648) ∧ ((v1 ≤ v2 → Q v2 σ) ∧ (¬ v1 ≤ v2 → (-2147483648 ≤ (σ.1 183) ∧ (σ.1 183) < 2147483648) ∧ ((¬ (σ.1 183) = 0 → Q v2 σ) ∧ ((σ.1 183) = 0 → fb_V E fb_Mo_step 0 [.inr 5, .inr 999, .inr 999, .inr 999, .inr 999] [] σ (fun _ s5 => fb_V E fb_Mo_run 22 [.inr 5, .inl v1, .inl (v2 + 1)] [] s5 Q))))))) : fb_V E fb_Mo_run 22 [.inr 5, .inl v1, .inl v2] [] σ Q := by
  refine fb_iload_n dd_Mo_run_22 rfl (fb_iload_n dd_Mo_run_23 rfl ?_)
  obtain ⟨q1, h⟩ := h
  obtain ⟨q2, h⟩ := h
  refine fb_icmp_ge (tgt := 44) dd_Mo_run_24 rfl q1 q2 (fun hc => ?_) (fun hc => ?_)
  · replace h := h.1 hc
    refine fb_iload_n dd_Mo_run_44 rfl ?_
    exact fb_iret dd_Mo_run_45 rfl h
  · replace h := h.2 hc
    refine fb_aload_n dd_Mo_run_27 rfl (by decide) (fb_getI (x := σ.1 183) 5 23 dd_Mo_run_28 rfl rfl rfl (by decide) lk_Mo_194 rfl ?_)
    obtain ⟨q3, h⟩ := h
    refine fb_if_ne (tgt := 44) dd_Mo_run_31 rfl q3 (fun hc => ?_) (fun hc => ?_)
    · replace h := h.1 hc
      refine fb_iload_n dd_Mo_run_44 rfl ?_
      exact fb_iret dd_Mo_run_45 rfl h
    · replace h := h.2 hc
      refine fb_aload_n dd_Mo_run_34 rfl (by decide) ?_
      refine fb_callVv (z := fb_Mo_step) (k := 5) (vs := []) (st := []) dd_Mo_run_35 vw_Mo_235 (by decide) rfl rfl rfl (np := 0) (by decide +kernel) rfl rfl rfl rfl rfl (fb_mono h (fun r4 s5 h => ?_))
      refine fb_iinc dd_Mo_run_38 rfl rfl rfl (fb_goto (tgt := 22) dd_Mo_run_41 rfl ?_)
      exact h

theorem Mo_state_b0 {E : fb_E} {σ : fb_S} {Q : Int → fb_S → Prop} (h : (-2147483648 ≤ (σ.1 182) ∧ (σ.1 182) < 2147483648) ∧ (((σ.1 182) = 0 → Q (-1) σ) ∧ (¬ (σ.1 182) = 0 → Q (σ.1 183) σ))) : fb_V E fb_Mo_state 0 [.inr 5] [] σ Q := by
  refine fb_aload_n dd_Mo_state_0 rfl (by decide) (fb_getI (x := σ.1 182) 5 22 dd_Mo_state_1 rfl rfl rfl (by decide) lk_Mo_69 rfl ?_)
  obtain ⟨q1, h⟩ := h
  refine fb_if_eq (tgt := 14) dd_Mo_state_4 rfl q1 (fun hc => ?_) (fun hc => ?_)
  · replace h := h.1 hc
    refine fb_iconst dd_Mo_state_14 ?_
    exact fb_iret dd_Mo_state_15 rfl h
  · replace h := h.2 hc
    refine fb_aload_n dd_Mo_state_7 rfl (by decide) (fb_getI (x := σ.1 183) 5 23 dd_Mo_state_8 rfl rfl rfl (by decide) lk_Mo_194 rfl (fb_goto (tgt := 15) dd_Mo_state_11 rfl ?_))
    exact fb_iret dd_Mo_state_15 rfl h

theorem Mo_spent_b0 {E : fb_E} {σ : fb_S} {Q : Int → fb_S → Prop} (h : (-2147483648 ≤ (σ.1 182) ∧ (σ.1 182) < 2147483648) ∧ (((σ.1 182) = 0 → Q 0 σ) ∧ (¬ (σ.1 182) = 0 → Q (σ.1 184) σ))) : fb_V E fb_Mo_spent 0 [.inr 5] [] σ Q := by
  refine fb_aload_n dd_Mo_spent_0 rfl (by decide) (fb_getI (x := σ.1 182) 5 22 dd_Mo_spent_1 rfl rfl rfl (by decide) lk_Mo_69 rfl ?_)
  obtain ⟨q1, h⟩ := h
  refine fb_if_eq (tgt := 14) dd_Mo_spent_4 rfl q1 (fun hc => ?_) (fun hc => ?_)
  · replace h := h.1 hc
    refine fb_iconst dd_Mo_spent_14 ?_
    exact fb_iret dd_Mo_spent_15 rfl h
  · replace h := h.2 hc
    refine fb_aload_n dd_Mo_spent_7 rfl (by decide) (fb_getI (x := σ.1 184) 5 24 dd_Mo_spent_8 rfl rfl rfl (by decide) lk_Mo_197 rfl (fb_goto (tgt := 15) dd_Mo_spent_11 rfl ?_))
    exact fb_iret dd_Mo_spent_15 rfl h

theorem Mo_next_b0 {E : fb_E} {σ : fb_S} {Q : Int → fb_S → Prop} (h : (-2147483648 ≤ (σ.1 182) ∧ (σ.1 182) < 2147483648) ∧ (((σ.1 182) = 0 → Q (-1) σ) ∧ (¬ (σ.1 182) = 0 → (-2147483648 ≤ (σ.1 183) ∧ (σ.1 183) < 2147483648) ∧ ((¬ (σ.1 183) = 0 → Q (-1) σ) ∧ ((σ.1 183) = 0 → (0 ≤ ((σ.1 185) - 1) ∧ ((σ.1 185) - 1) < 8) ∧ (Q (σ.2 55 ((σ.1 185) - 1)) σ)))))) : fb_V E fb_Mo_next 0 [.inr 5] [] σ Q := by
  refine fb_aload_n dd_Mo_next_0 rfl (by decide) (fb_getI (x := σ.1 182) 5 22 dd_Mo_next_1 rfl rfl rfl (by decide) lk_Mo_69 rfl ?_)
  obtain ⟨q1, h⟩ := h
  refine fb_if_eq (tgt := 28) dd_Mo_next_4 rfl q1 (fun hc => ?_) (fun hc => ?_)
  · replace h := h.1 hc
    refine fb_iconst dd_Mo_next_28 ?_
    exact fb_iret dd_Mo_next_29 rfl h
  · replace h := h.2 hc
    refine fb_aload_n dd_Mo_next_7 rfl (by decide) (fb_getI (x := σ.1 183) 5 23 dd_Mo_next_8 rfl rfl rfl (by decide) lk_Mo_194 rfl ?_)
    obtain ⟨q2, h⟩ := h
    refine fb_if_ne (tgt := 28) dd_Mo_next_11 rfl q2 (fun hc => ?_) (fun hc => ?_)
    · replace h := h.1 hc
      refine fb_iconst dd_Mo_next_28 ?_
      exact fb_iret dd_Mo_next_29 rfl h
    · replace h := h.2 hc
      refine fb_aload_n dd_Mo_next_14 rfl (by decide) (fb_getR 5 27 dd_Mo_next_15 rfl rfl rfl (by decide) lk_Mo_56 (fb_aload_n dd_Mo_next_18 rfl (by decide) (fb_getI (x := σ.1 185) 5 25 dd_Mo_next_19 rfl rfl rfl (by decide) lk_Mo_203 rfl (fb_iconst dd_Mo_next_22 (fb_isub dd_Mo_next_23 ?_)))))
      obtain ⟨q3, h⟩ := h
      refine fb_ild (x := σ.2 55 ((σ.1 185) - 1)) dd_Mo_next_24 rfl q3 rfl (fb_goto (tgt := 29) dd_Mo_next_25 rfl ?_)
      exact fb_iret dd_Mo_next_29 rfl h

theorem Mo_depth_b0 {E : fb_E} {σ : fb_S} {Q : Int → fb_S → Prop} (h : (-2147483648 ≤ (σ.1 182) ∧ (σ.1 182) < 2147483648) ∧ (((σ.1 182) = 0 → Q 0 σ) ∧ (¬ (σ.1 182) = 0 → (-2147483648 ≤ (σ.1 183) ∧ (σ.1 183) < 2147483648) ∧ ((¬ (σ.1 183) = 0 → Q 0 σ) ∧ ((σ.1 183) = 0 → Q (σ.1 185) σ))))) : fb_V E fb_Mo_depth 0 [.inr 5] [] σ Q := by
  refine fb_aload_n dd_Mo_depth_0 rfl (by decide) (fb_getI (x := σ.1 182) 5 22 dd_Mo_depth_1 rfl rfl rfl (by decide) lk_Mo_69 rfl ?_)
  obtain ⟨q1, h⟩ := h
  refine fb_if_eq (tgt := 21) dd_Mo_depth_4 rfl q1 (fun hc => ?_) (fun hc => ?_)
  · replace h := h.1 hc
    refine fb_iconst dd_Mo_depth_21 ?_
    exact fb_iret dd_Mo_depth_22 rfl h
  · replace h := h.2 hc
    refine fb_aload_n dd_Mo_depth_7 rfl (by decide) (fb_getI (x := σ.1 183) 5 23 dd_Mo_depth_8 rfl rfl rfl (by decide) lk_Mo_194 rfl ?_)
    obtain ⟨q2, h⟩ := h
    refine fb_if_ne (tgt := 21) dd_Mo_depth_11 rfl q2 (fun hc => ?_) (fun hc => ?_)
    · replace h := h.1 hc
      refine fb_iconst dd_Mo_depth_21 ?_
      exact fb_iret dd_Mo_depth_22 rfl h
    · replace h := h.2 hc
      refine fb_aload_n dd_Mo_depth_14 rfl (by decide) (fb_getI (x := σ.1 185) 5 25 dd_Mo_depth_15 rfl rfl rfl (by decide) lk_Mo_203 rfl (fb_goto (tgt := 22) dd_Mo_depth_18 rfl ?_))
      exact fb_iret dd_Mo_depth_22 rfl h

theorem Mo_value_b0 {E : fb_E} {σ : fb_S} {Q : Int → fb_S → Prop} (v1 v2 : Int) (h : (-2147483648 ≤ (σ.1 182) ∧ (σ.1 182) < 2147483648) ∧ (((σ.1 182) = 0 → Q (-1) σ) ∧ (¬ (σ.1 182) = 0 → (-2147483648 ≤ (σ.1 183) ∧ (σ.1 183) < 2147483648) ∧ (((σ.1 183) = 0 → (0 ≤ ((σ.1 185) - 1) ∧ ((σ.1 185) - 1) < 8) ∧ ((0 ≤ (σ.2 55 ((σ.1 185) - 1)) ∧ (σ.2 55 ((σ.1 185) - 1)) < 2147483648) ∧ ((-2147483648 ≤ v1 ∧ v1 < 2147483648) ∧ ((v1 < 0 → Q (-1) σ) ∧ (¬ v1 < 0 → (0 ≤ ((σ.2 55 ((σ.1 185) - 1)) / 24) ∧ ((σ.2 55 ((σ.1 185) - 1)) / 24) < 6) ∧ ((-2147483648 ≤ (σ.2 40 ((σ.2 55 ((σ.1 185) - 1)) / 24)) ∧ (σ.2 40 ((σ.2 55 ((σ.1 185) - 1)) / 24)) < 2147483648) ∧ (((σ.2 40 ((σ.2 55 ((σ.1 185) - 1)) / 24)) ≤ v1 → Q (-1) σ) ∧ (¬ (σ.2 40 ((σ.2 55 ((σ.1 185) - 1)) / 24)) ≤ v1 → (-2147483648 ≤ v2 ∧ v2 < 2147483648) ∧ ((v2 < 0 → Q (-1) σ) ∧ (¬ v2 < 0 → (0 ≤ ((6 * ((σ.2 55 ((σ.1 185) - 1)) / 24)) + v1) ∧ ((6 * ((σ.2 55 ((σ.1 185) - 1)) / 24)) + v1) < 36) ∧ ((-2147483648 ≤ (σ.2 42 ((6 * ((σ.2 55 ((σ.1 185) - 1)) / 24)) + v1)) ∧ (σ.2 42 ((6 * ((σ.2 55 ((σ.1 185) - 1)) / 24)) + v1)) < 2147483648) ∧ (((σ.2 42 ((6 * ((σ.2 55 ((σ.1 185) - 1)) / 24)) + v1)) ≤ v2 → Q (-1) σ) ∧ (¬ (σ.2 42 ((6 * ((σ.2 55 ((σ.1 185) - 1)) / 24)) + v1)) ≤ v2 → fb_V E fb_Mo_place 0 [.inr 5, .inl ((σ.2 55 ((σ.1 185) - 1)) / 24), .inl v1, .inr 999, .inr 999] [] σ (fun r11 s12 => (0 ≤ (r11 + v2) ∧ (r11 + v2) < 128) ∧ (Q (s12.2 56 (r11 + v2)) s12))))))))))))))) ∧ (¬ (σ.1 183) = 0 → Q (-1) σ))))) : fb_V E fb_Mo_value 0 [.inr 5, .inl v1, .inl v2, .inr 999] [] σ Q := by
  refine fb_aload_n dd_Mo_value_0 rfl (by decide) (fb_getI (x := σ.1 182) 5 22 dd_Mo_value_1 rfl rfl rfl (by decide) lk_Mo_69 rfl ?_)
  obtain ⟨q1, h⟩ := h
  refine fb_if_eq (tgt := 14) dd_Mo_value_4 rfl q1 (fun hc => ?_) (fun hc => ?_)
  · replace h := h.1 hc
    refine fb_iconst dd_Mo_value_14 ?_
    exact fb_iret dd_Mo_value_15 rfl h
  · replace h := h.2 hc
    refine fb_aload_n dd_Mo_value_7 rfl (by decide) (fb_getI (x := σ.1 183) 5 23 dd_Mo_value_8 rfl rfl rfl (by decide) lk_Mo_194 rfl ?_)
    obtain ⟨q2, h⟩ := h
    refine fb_if_eq (tgt := 16) dd_Mo_value_11 rfl q2 (fun hc => ?_) (fun hc => ?_)
    · replace h := h.1 hc
      refine fb_aload_n dd_Mo_value_16 rfl (by decide) (fb_getR 5 27 dd_Mo_value_17 rfl rfl rfl (by decide) lk_Mo_56 (fb_aload_n dd_Mo_value_20 rfl (by decide) (fb_getI (x := σ.1 185) 5 25 dd_Mo_value_21 rfl rfl rfl (by decide) lk_Mo_203 rfl (fb_iconst dd_Mo_value_24 (fb_isub dd_Mo_value_25 ?_)))))
      obtain ⟨q3, h⟩ := h
      refine fb_ild (x := σ.2 55 ((σ.1 185) - 1)) dd_Mo_value_26 rfl q3 rfl (fb_bipush dd_Mo_value_27 (by decide) ?_)
      obtain ⟨q4, h⟩ := h
      refine fb_idiv dd_Mo_value_29 q4 (by decide) (fb_istore_n dd_Mo_value_30 rfl rfl rfl (fb_iload_n dd_Mo_value_31 rfl ?_))
      obtain ⟨q5, h⟩ := h
      refine fb_if_lt (tgt := 80) dd_Mo_value_32 rfl q5 (fun hc => ?_) (fun hc => ?_)
      · replace h := h.1 hc
        refine fb_iconst dd_Mo_value_80 ?_
        exact fb_iret dd_Mo_value_81 rfl h
      · replace h := h.2 hc
        refine fb_iload_n dd_Mo_value_35 rfl (fb_aload_n dd_Mo_value_36 rfl (by decide) (fb_getR 5 2 dd_Mo_value_37 rfl rfl rfl (by decide) lk_Mo_7 (fb_iload_n dd_Mo_value_40 rfl ?_)))
        obtain ⟨q6, h⟩ := h
        refine fb_ild (x := σ.2 40 ((σ.2 55 ((σ.1 185) - 1)) / 24)) dd_Mo_value_41 rfl q6 rfl ?_
        obtain ⟨q7, h⟩ := h
        refine fb_icmp_ge (tgt := 80) dd_Mo_value_42 rfl q5 q7 (fun hc => ?_) (fun hc => ?_)
        · replace h := h.1 hc
          refine fb_iconst dd_Mo_value_80 ?_
          exact fb_iret dd_Mo_value_81 rfl h
        · replace h := h.2 hc
          refine fb_iload_n dd_Mo_value_45 rfl ?_
          obtain ⟨q8, h⟩ := h
          refine fb_if_lt (tgt := 80) dd_Mo_value_46 rfl q8 (fun hc => ?_) (fun hc => ?_)
          · replace h := h.1 hc
            refine fb_iconst dd_Mo_value_80 ?_
            exact fb_iret dd_Mo_value_81 rfl h
          · replace h := h.2 hc
            refine fb_iload_n dd_Mo_value_49 rfl (fb_aload_n dd_Mo_value_50 rfl (by decide) (fb_getR 5 4 dd_Mo_value_51 rfl rfl rfl (by decide) lk_Mo_16 (fb_bipush dd_Mo_value_54 (by decide) (fb_iload_n dd_Mo_value_56 rfl (fb_imul dd_Mo_value_57 (fb_iload_n dd_Mo_value_58 rfl (fb_iadd dd_Mo_value_59 ?_)))))))
            obtain ⟨q9, h⟩ := h
            refine fb_ild (x := σ.2 42 ((6 * ((σ.2 55 ((σ.1 185) - 1)) / 24)) + v1)) dd_Mo_value_60 rfl q9 rfl ?_
            obtain ⟨q10, h⟩ := h
            refine fb_icmp_ge (tgt := 80) dd_Mo_value_61 rfl q8 q10 (fun hc => ?_) (fun hc => ?_)
            · replace h := h.1 hc
              refine fb_iconst dd_Mo_value_80 ?_
              exact fb_iret dd_Mo_value_81 rfl h
            · replace h := h.2 hc
              refine fb_aload_n dd_Mo_value_64 rfl (by decide) (fb_getR 5 28 dd_Mo_value_65 rfl rfl rfl (by decide) lk_Mo_59 (fb_aload_n dd_Mo_value_68 rfl (by decide) (fb_iload_n dd_Mo_value_69 rfl (fb_iload_n dd_Mo_value_70 rfl ?_))))
              refine fb_callVi (z := fb_Mo_place) (k := 5) (vs := [.inl ((σ.2 55 ((σ.1 185) - 1)) / 24), .inl v1]) (st := [.inr 56]) dd_Mo_value_71 vw_Mo_105 (by decide) ⟨_, rfl⟩ rfl rfl (np := 2) (by decide +kernel) rfl rfl rfl rfl rfl (fb_mono h (fun r11 s12 h => ?_))
              refine fb_iload_n dd_Mo_value_74 rfl (fb_iadd dd_Mo_value_75 ?_)
              obtain ⟨q13, h⟩ := h
              refine fb_ild (x := s12.2 56 (r11 + v2)) dd_Mo_value_76 rfl q13 rfl (fb_goto (tgt := 81) dd_Mo_value_77 rfl ?_)
              exact fb_iret dd_Mo_value_81 rfl h
    · replace h := h.2 hc
      refine fb_iconst dd_Mo_value_14 ?_
      exact fb_iret dd_Mo_value_15 rfl h

theorem Mo_output_b0 {E : fb_E} {σ : fb_S} {Q : Int → fb_S → Prop} (v1 : Int) (h : (-2147483648 ≤ v1 ∧ v1 < 2147483648) ∧ ((¬ v1 = (-1) → (-2147483648 ≤ (σ.1 182) ∧ (σ.1 182) < 2147483648) ∧ (((σ.1 182) = 0 → Q (-1) σ) ∧ (¬ (σ.1 182) = 0 → (v1 < 0 → Q (-1) σ) ∧ (¬ v1 < 0 → (-2147483648 ≤ (σ.1 186) ∧ (σ.1 186) < 2147483648) ∧ (((σ.1 186) ≤ v1 → Q (-1) σ) ∧ (¬ (σ.1 186) ≤ v1 → (100 ≤ v1 → Q (-1) σ) ∧ (¬ 100 ≤ v1 → (0 ≤ v1 ∧ v1 < 100) ∧ (Q (σ.2 57 v1) σ)))))))) ∧ (v1 = (-1) → (-2147483648 ≤ (σ.1 182) ∧ (σ.1 182) < 2147483648) ∧ (((σ.1 182) = 0 → Q 0 σ) ∧ (¬ (σ.1 182) = 0 → Q (σ.1 186) σ))))) : fb_V E fb_Mo_output 0 [.inr 5, .inl v1] [] σ Q := by
  refine fb_iload_n dd_Mo_output_0 rfl (fb_iconst dd_Mo_output_1 ?_)
  obtain ⟨q1, h⟩ := h
  refine fb_icmp_ne (tgt := 21) dd_Mo_output_2 rfl q1 (by decide) (fun hc => ?_) (fun hc => ?_)
  · replace h := h.1 hc
    refine fb_aload_n dd_Mo_output_21 rfl (by decide) (fb_getI (x := σ.1 182) 5 22 dd_Mo_output_22 rfl rfl rfl (by decide) lk_Mo_69 rfl ?_)
    obtain ⟨q2, h⟩ := h
    refine fb_if_eq (tgt := 55) dd_Mo_output_25 rfl q2 (fun hc => ?_) (fun hc => ?_)
    · replace h := h.1 hc
      refine fb_iconst dd_Mo_output_55 ?_
      exact fb_iret dd_Mo_output_56 rfl h
    · replace h := h.2 hc
      refine fb_iload_n dd_Mo_output_28 rfl ?_
      refine fb_if_lt (tgt := 55) dd_Mo_output_29 rfl q1 (fun hc => ?_) (fun hc => ?_)
      · replace h := h.1 hc
        refine fb_iconst dd_Mo_output_55 ?_
        exact fb_iret dd_Mo_output_56 rfl h
      · replace h := h.2 hc
        refine fb_iload_n dd_Mo_output_32 rfl (fb_aload_n dd_Mo_output_33 rfl (by decide) (fb_getI (x := σ.1 186) 5 26 dd_Mo_output_34 rfl rfl rfl (by decide) lk_Mo_200 rfl ?_))
        obtain ⟨q3, h⟩ := h
        refine fb_icmp_ge (tgt := 55) dd_Mo_output_37 rfl q1 q3 (fun hc => ?_) (fun hc => ?_)
        · replace h := h.1 hc
          refine fb_iconst dd_Mo_output_55 ?_
          exact fb_iret dd_Mo_output_56 rfl h
        · replace h := h.2 hc
          refine fb_iload_n dd_Mo_output_40 rfl (fb_bipush dd_Mo_output_41 (by decide) ?_)
          refine fb_icmp_ge (tgt := 55) dd_Mo_output_43 rfl q1 (by decide) (fun hc => ?_) (fun hc => ?_)
          · replace h := h.1 hc
            refine fb_iconst dd_Mo_output_55 ?_
            exact fb_iret dd_Mo_output_56 rfl h
          · replace h := h.2 hc
            refine fb_aload_n dd_Mo_output_46 rfl (by decide) (fb_getR 5 29 dd_Mo_output_47 rfl rfl rfl (by decide) lk_Mo_62 (fb_iload_n dd_Mo_output_50 rfl ?_))
            obtain ⟨q4, h⟩ := h
            refine fb_ild (x := σ.2 57 v1) dd_Mo_output_51 rfl q4 rfl (fb_goto (tgt := 56) dd_Mo_output_52 rfl ?_)
            exact fb_iret dd_Mo_output_56 rfl h
  · replace h := h.2 hc
    refine fb_aload_n dd_Mo_output_5 rfl (by decide) (fb_getI (x := σ.1 182) 5 22 dd_Mo_output_6 rfl rfl rfl (by decide) lk_Mo_69 rfl ?_)
    obtain ⟨q5, h⟩ := h
    refine fb_if_eq (tgt := 19) dd_Mo_output_9 rfl q5 (fun hc => ?_) (fun hc => ?_)
    · replace h := h.1 hc
      refine fb_iconst dd_Mo_output_19 ?_
      exact fb_iret dd_Mo_output_20 rfl h
    · replace h := h.2 hc
      refine fb_aload_n dd_Mo_output_12 rfl (by decide) (fb_getI (x := σ.1 186) 5 26 dd_Mo_output_13 rfl rfl rfl (by decide) lk_Mo_200 rfl (fb_goto (tgt := 20) dd_Mo_output_16 rfl ?_))
      exact fb_iret dd_Mo_output_20 rfl h
