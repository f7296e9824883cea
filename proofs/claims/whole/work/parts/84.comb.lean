/-! the class's run: two numbers made one; doubles -/
theorem nb_mod {u0 u1 : Nat} (h0 : u0 < 256) : (u0 + 256 * u1) % 2 ^ 8 = u0 ∧ (u0 + 256 * u1) / 2 ^ 8 = u1 := by
  constructor
  · omega
  · omega
theorem nb_and {u0 u1 v0 v1 : Nat} (h0 : u0 < 256) (h1 : v0 < 256) : ((u0 + 256 * u1) &&& (v0 + 256 * v1)) % 256 = u0 &&& v0 ∧ ((u0 + 256 * u1) &&& (v0 + 256 * v1)) / 256 = u1 &&& v1 := by
  have a := Nat.and_mod_two_pow (a := u0 + 256 * u1) (b := v0 + 256 * v1) (n := 8)
  have b := Nat.and_div_two_pow (a := u0 + 256 * u1) (b := v0 + 256 * v1) (n := 8)
  rw [(nb_mod h0).1, (nb_mod h1).1] at a
  rw [(nb_mod h0).2, (nb_mod h1).2] at b
  exact ⟨a, b⟩
theorem nb_or {u0 u1 v0 v1 : Nat} (h0 : u0 < 256) (h1 : v0 < 256) : ((u0 + 256 * u1) ||| (v0 + 256 * v1)) % 256 = u0 ||| v0 ∧ ((u0 + 256 * u1) ||| (v0 + 256 * v1)) / 256 = u1 ||| v1 := by
  have a := Nat.or_mod_two_pow (a := u0 + 256 * u1) (b := v0 + 256 * v1) (n := 8)
  have b := Nat.or_div_two_pow (a := u0 + 256 * u1) (b := v0 + 256 * v1) (n := 8)
  rw [(nb_mod h0).1, (nb_mod h1).1] at a
  rw [(nb_mod h0).2, (nb_mod h1).2] at b
  exact ⟨a, b⟩
theorem nb_xor {u0 u1 v0 v1 : Nat} (h0 : u0 < 256) (h1 : v0 < 256) : ((u0 + 256 * u1) ^^^ (v0 + 256 * v1)) % 256 = u0 ^^^ v0 ∧ ((u0 + 256 * u1) ^^^ (v0 + 256 * v1)) / 256 = u1 ^^^ v1 := by
  have a := Nat.xor_mod_two_pow (a := u0 + 256 * u1) (b := v0 + 256 * v1) (n := 8)
  have b := Nat.xor_div_two_pow (a := u0 + 256 * u1) (b := v0 + 256 * v1) (n := 8)
  rw [(nb_mod h0).1, (nb_mod h1).1] at a
  rw [(nb_mod h0).2, (nb_mod h1).2] at b
  exact ⟨a, b⟩
theorem cmp_eq {n b0 b1 c0 c1 c : Int} (hn : 2 ≤ n ∧ n ≤ 6) (h2 : n = 2 → c = 0) (h3 : n = 3 → c = 1) (hb0 : 0 ≤ b0 ∧ b0 ≤ 255) (hb1 : 0 ≤ b1 ∧ b1 ≤ 255) (hc0 : 0 ≤ c0 ∧ c0 ≤ 255) (hc1 : 0 ≤ c1 ∧ c1 ≤ 255) :
    am_cmp n (b0 + 256 * b1) (c0 + 256 * c1) % 256 = px_ra n b0 c c0 ∧ am_cmp n (b0 + 256 * b1) (c0 + 256 * c1) / 256 % 256 = px_ra n b1 (px_rc n b0 c c0) c1 := by
  have e1 : (b0 + 256 * b1).toNat = b0.toNat + 256 * b1.toNat := by omega
  have e2 : (c0 + 256 * c1).toNat = c0.toNat + 256 * c1.toNat := by omega
  have k1 : b1.toNat < 2 ^ 8 := by omega
  have k2 : c1.toNat < 2 ^ 8 := by omega
  have q1 : b1.toNat &&& c1.toNat ≤ b1.toNat := Nat.and_le_left
  have q2 := Nat.or_lt_two_pow k1 k2
  have q3 := Nat.xor_lt_two_pow k1 k2
  unfold am_cmp px_ra px_rc
  rw [if_neg (show ¬ n = 1 by omega)]
  by_cases g2 : n = 2
  · have := h2 g2
    simp only [if_pos g2]
    omega
  · simp only [if_neg g2]
    by_cases g3 : n = 3
    · have := h3 g3
      simp only [if_pos g3]
      omega
    · simp only [if_neg g3]
      by_cases g4 : n = 4
      · simp only [if_pos g4]
        rw [e1, e2]
        have := nb_and (u0 := b0.toNat) (u1 := b1.toNat) (v0 := c0.toNat) (v1 := c1.toNat) (by omega) (by omega)
        omega
      · simp only [if_neg g4]
        by_cases g5 : n = 5
        · simp only [if_pos g5]
          rw [e1, e2]
          have := nb_or (u0 := b0.toNat) (u1 := b1.toNat) (v0 := c0.toNat) (v1 := c1.toNat) (by omega) (by omega)
          omega
        · simp only [if_neg g5, if_pos (show n = 6 by omega)]
          rw [e1, e2]
          have := nb_xor (u0 := b0.toNat) (u1 := b1.toNat) (v0 := c0.toNat) (v1 := c1.toNat) (by omega) (by omega)
          omega
section CB
variable {E : fb_E} {π σ τ α β : fb_S} {L : Int → Int} {S k s n q a x c z K f v : Int} {d : Int → Int} {l m : em_I} {Q : Int → fb_S → Prop}
theorem so_cmb0 (X : cx π L β σ K k f) (hn : 2 ≤ n ∧ n ≤ 6) (ho : π.2 17 k = n) (h2 : n = 2 → c = 0) (h3 : n = 3 → c = 1) (hx : 0 ≤ x ∧ x ≤ 255) (h : ∀ τ, fr_a po_A po_G σ τ ∧ Rc π L (am_adv (am_wr π (b1 π L β k) f (π.2 18 k) (am_cmp n (am_rd π (β.2 56) f (π.2 19 k)) (am_rd π (β.2 56) f (π.2 20 k)))) (K + 1)) τ → Q 0 τ) : Gt 0 E π L k σ Q l (it_comb (iv_z π f) (ly_p π f) n (π.2 18 k) (π.2 19 k) (π.2 20 k)) (β.2 56) a x c z := by
  have hP := X.1.1
  have hg := X.1.2.1
  obtain ⟨hf, hk, -, -, hfi⟩ := X.at
  have hsc := hfi.2.2.2.2.2.2.1 (by omega)
  clear hfi
  have C := X.gc
  have nx := (X.nx (by omega) (by omega)).1
  have hd := X.2.1.2.2.2.2
  have pa := pl_sc hP hg hf.1 hf.2 hsc.1 x
  have pb := pl_sc hP hg hf.1 hf.2 hsc.2.1 x
  have pc := pl_sc hP hg hf.1 hf.2 hsc.2.2 x
  have N : ∀ m, nl π k m := fun m => Or.inl nx
  have rdb := rd_eq (d := β.2 56) hsc.2.1 pb.1 (fun g => (pb.2.2.2 g).2) x
  have rdc := rd_eq (d := β.2 56) hsc.2.2 pc.1 (fun g => (pc.2.2.2 g).2) x
  have b0 := px_m_in hx.1 hd pb.2.1
  have b1 := px_m_in hx.1 hd pb.2.2.1
  have c0 := px_m_in hx.1 hd pc.2.1
  have c1 := px_m_in hx.1 hd pc.2.2.1
  have na : iv_z π f (π.2 18 k) ≠ 0 := by
    have : iv_z π f (π.2 18 k) = 1 ∨ iv_z π f (π.2 18 k) = 2 := hsc.1
    omega
  have ub := fun w => px_up1 (d := β.2 56) (w := w) (x := x) hP hg hf.1 hf.2 na hsc.2.1
  have uc := fun w => px_up1 (d := β.2 56) (w := w) (x := x) hP hg hf.1 hf.2 na hsc.2.2
  have ce := cmp_eq hn h2 h3 b0 b1 c0 c1
  have fin := fun τ s a' x' c' z' d' (P : pt 0 π L k σ (ly_c π L k) τ s d' a' x' c' z') e => h τ (rc_wr X (by omega) (by omega) (by omega) (v := π.2 18 k) (y := am_cmp n (am_rd π (β.2 56) f (π.2 19 k)) (am_rd π (β.2 56) f (π.2 20 k))) P e)
  unfold it_comb
  by_cases g : iv_z π f (π.2 18 k) = 2
  · rw [it_2_2 g]
    have p1 := pa.2.2.2 g
    apply g_lda C (N _) pb.2.1
    intro z1 _
    apply g_bin C (N _) hn pc.2.1
    apply g_sta C (N _) pa.2.1 (by omega)
    apply g_lda C (N _) pb.2.2.1
    intro z2 _
    apply g_bin C (N _) hn pc.2.2.1
    apply g_sta C (N _) pa.2.2.1 (by omega)
    refine g_end (fun τ s P => fin _ _ _ _ _ _ _ P ?_) hk.1
    rw [if_pos g, px_o_1 (show ly_p π f (π.2 18 k) 0 < 256 by omega), px_o_1 (show ly_p π f (π.2 18 k) 1 < 256 by omega), p1.1, ub, uc, rdb, rdc, ce.1, ce.2]
  · rw [it_2_1 g]
    apply g_lda C (N _) pb.2.1
    intro z1 _
    apply g_bin C (N _) hn pc.2.1
    apply g_sta C (N _) pa.2.1 (by omega)
    refine g_end (fun τ s P => fin _ _ _ _ _ _ _ P ?_) hk.1
    rw [if_neg g, px_o_1 (show ly_p π f (π.2 18 k) 0 < 256 by omega), rdb, rdc, ce.1]
theorem so_cmb (X : cx π L β σ K k f) (hn : 2 ≤ π.2 17 k ∧ π.2 17 k ≤ 6) (h : ∀ τ, fr_a po_A po_G σ τ ∧ Rc π L (am_adv (am_wr π (b1 π L β k) f (π.2 18 k) (am_cmp (π.2 17 k) (am_rd π (β.2 56) f (π.2 19 k)) (am_rd π (β.2 56) f (π.2 20 k)))) (K + 1)) τ → Q 0 τ) : fb_V E fb_Po_performOne 0 [.inr 4, .inr 999, .inr 999] [] σ Q := by
  have C := X.gc
  have nx := (X.nx (by omega) (by omega)).1
  have hx := X.rl.2.2.2.1.2.1
  have N : ∀ m, nl π k m := fun m => Or.inl nx
  apply po_enter X
  rw [lc_16 X]
  unfold it_in
  rw [if_neg (show ¬ π.2 17 k = 0 by omega), if_neg (show ¬ π.2 17 k = 1 by omega)]
  by_cases g2 : π.2 17 k = 2
  · rw [if_pos g2]
    apply g_flag C (N _) (by omega)
    have := so_cmb0 (E := E) (Q := Q) (n := π.2 17 k) (x := σ.1 138) (c := 0) (z := σ.1 140) (a := σ.1 137) (l := [] ++ [(12, 0)]) X hn rfl (fun _ => rfl) (fun g => by omega) hx h
    rw [g2] at this
    exact this
  · rw [if_neg g2]
    by_cases g3 : π.2 17 k = 3
    · rw [if_pos g3]
      apply g_flag C (N _) (by omega)
      have := so_cmb0 (E := E) (Q := Q) (n := π.2 17 k) (x := σ.1 138) (c := 1) (z := σ.1 140) (a := σ.1 137) (l := [] ++ [(13, 0)]) X hn rfl (fun g => by omega) (fun _ => rfl) hx h
      rw [g3] at this
      exact this
    · rw [if_neg g3, if_pos (show π.2 17 k ≤ 6 by omega)]
      exact so_cmb0 X hn rfl (fun g => by omega) (fun g => by omega) hx h
theorem so_dbl (X : cx π L β σ K k f) (ho : π.2 17 k = 7) (h : ∀ τ, fr_a po_A po_G σ τ ∧ Rc π L (am_adv (am_wr π (b1 π L β k) f (π.2 18 k) (am_rd π (β.2 56) f (π.2 18 k) + am_rd π (β.2 56) f (π.2 18 k))) (K + 1)) τ → Q 0 τ) : fb_V E fb_Po_performOne 0 [.inr 4, .inr 999, .inr 999] [] σ Q := by
  have hP := X.1.1
  have hg := X.1.2.1
  obtain ⟨hf, hk, -, -, hfi⟩ := X.at
  have hsc := hfi.2.2.2.2.2.2.2.1 ho
  clear hfi
  have C := X.gc
  have nx := (X.nx (by omega) (by omega)).1
  have hx := X.rl.2.2.2.1.2.1
  have hd := X.2.1.2.2.2.2
  have pa := pl_sc hP hg hf.1 hf.2 hsc (σ.1 138)
  have N : ∀ m, nl π k m := fun m => Or.inl nx
  apply po_enter X
  have fin := fun τ s a' x' c' z' d' (P : pt 0 π L k σ (ly_c π L k) τ s d' a' x' c' z') e => h τ (rc_wr X (by omega) (by omega) (by omega) (v := π.2 18 k) (y := am_rd π (β.2 56) f (π.2 18 k) + am_rd π (β.2 56) f (π.2 18 k)) P e)
  rw [lc_16 X, ho, show it_in (iv_z π f) (ly_p π f) (iv_z π (π.2 18 k) 0) (ly_p π (π.2 18 k) 0 0) 7 (π.2 18 k) (π.2 19 k) (π.2 20 k) (ly_a π L (ly_gi π k)) (L k) (ly_b π L k) = it_dbl (iv_z π f) (ly_p π f) (π.2 18 k) from rfl]
  unfold it_dbl
  have d0 := hd (ly_p π f (π.2 18 k) 0) (by omega) (by omega)
  by_cases g : iv_z π f (π.2 18 k) = 2
  · rw [it_2_2 g]
    have p1 := pa.2.2.2 g
    have d1 := hd (ly_p π f (π.2 18 k) 1) (by omega) (by omega)
    have er : am_rd π (β.2 56) f (π.2 18 k) = β.2 56 (ly_p π f (π.2 18 k) 0) + 256 * β.2 56 (ly_p π f (π.2 18 k) 1) := by
      unfold am_rd
      rw [if_pos g, p1.1]
    have un : up (β.2 56) (ly_p π f (π.2 18 k) 0) (2 * β.2 56 (ly_p π f (π.2 18 k) 0) % 256) (ly_p π f (π.2 18 k) 1) = β.2 56 (ly_p π f (π.2 18 k) 1) := up_n (by omega)
    apply g_shf C (N _) (Or.inl rfl) (by omega) (v := 2 * β.2 56 (ly_p π f (π.2 18 k) 0)) (fun _ => rfl) (fun g => by omega)
    intro z1
    apply g_shf C (N _) (Or.inr rfl) (by omega) (v := 2 * β.2 56 (ly_p π f (π.2 18 k) 1) + 2 * β.2 56 (ly_p π f (π.2 18 k) 0) / 256) (fun g => by omega) (fun _ => by rw [un])
    intro z2
    refine g_end (fun τ s P => fin _ _ _ _ _ _ _ P ?_) hk.1
    rw [if_pos g, er, ← p1.1]
    generalize β.2 56 (ly_p π f (π.2 18 k) 0) = u at *
    generalize β.2 56 (ly_p π f (π.2 18 k) 1) = w at *
    rw [show (u + 256 * w + (u + 256 * w)) % 256 = 2 * u % 256 by omega, show (u + 256 * w + (u + 256 * w)) / 256 % 256 = (2 * w + 2 * u / 256) % 256 by omega]
  · rw [it_2_1 g]
    have er : am_rd π (β.2 56) f (π.2 18 k) = β.2 56 (ly_p π f (π.2 18 k) 0) := by
      unfold am_rd
      rw [if_neg g]
    apply g_shf C (N _) (Or.inl rfl) (by omega) (v := 2 * β.2 56 (ly_p π f (π.2 18 k) 0)) (fun _ => rfl) (fun g => by omega)
    intro z1
    refine g_end (fun τ s P => fin _ _ _ _ _ _ _ P ?_) hk.1
    rw [if_neg g, er]
    rw [show β.2 56 (ly_p π f (π.2 18 k) 0) + β.2 56 (ly_p π f (π.2 18 k) 0) = 2 * β.2 56 (ly_p π f (π.2 18 k) 0) by omega]
end CB
