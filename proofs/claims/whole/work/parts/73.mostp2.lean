/-! the reference's step, whole -/
section MS2
variable {E : fb_E} {π σ τ α : fb_S} {L : Int → Int} {f v K k : Int} {Q : Int → fb_S → Prop}
theorem mo_cmp (op x y : Int) (hop : 1 ≤ op ∧ op ≤ 7) (hx : 0 ≤ x ∧ x < 2147483648) (hy : 0 ≤ y ∧ y < 2147483648) (h : Q (am_cmp op x y) σ) : fb_V E fb_Mo_compute 0 [.inr 5, .inl op, .inl x, .inl y] [] σ Q := by
  apply fb_drop (fb_sub_d (fb_sub_k (fb_sub_k (fb_sub_k fb_sub_0))))
  apply Mo_compute_b0
  unfold am_cmp at h
  refine ⟨by omega, fun e => ?_, fun e => ?_, fun e => ?_, fun e => ⟨hx, hy, ?_⟩, fun e => ⟨hx, hy, ?_⟩, fun e => ⟨hx, hy, ?_⟩, fun e => ?_⟩
  · rw [if_pos e] at h; exact h
  · rw [if_neg (by omega), if_pos e] at h; exact h
  · rw [if_neg (by omega), if_neg (by omega), if_pos e] at h; exact h
  · rw [if_neg (by omega), if_neg (by omega), if_neg (by omega), if_pos e] at h; exact h
  · rw [if_neg (by omega), if_neg (by omega), if_neg (by omega), if_neg (by omega), if_pos e] at h; exact h
  · rw [if_neg (by omega), if_neg (by omega), if_neg (by omega), if_neg (by omega), if_neg (by omega), if_pos e] at h; exact h
  · rw [if_neg e.1, if_neg e.2.1, if_neg e.2.2.1, if_neg e.2.2.2.1, if_neg e.2.2.2.2.1, if_neg e.2.2.2.2.2] at h; exact h
theorem am_cmp_in (op x y : Int) (hx : 0 ≤ x ∧ x ≤ 65535) (hy : 0 ≤ y ∧ y ≤ 65535) : -65535 ≤ am_cmp op x y ∧ am_cmp op x y ≤ 131070 := by
  have h1 : x.toNat < 2 ^ 16 := by omega
  have h2 : y.toNat < 2 ^ 16 := by omega
  have a1 : x.toNat &&& y.toNat ≤ x.toNat := Nat.and_le_left
  have a2 := Nat.or_lt_two_pow h1 h2
  have a3 := Nat.xor_lt_two_pow h1 h2
  unfold am_cmp
  repeat' split
  all_goals omega
/-- the tail of most instructions -/
theorem mo_wadv (X : mo_X π L σ) (f0 : 0 ≤ f) (f1 : f < π.1 41) (hv : iv_sc (iv_z π f) v) {x : Int} (hx : -2147483648 ≤ x ∧ x < 2147483648) (h185 : 0 ≤ σ.1 185 - 1 ∧ σ.1 185 - 1 < 8) (q : Q 0 (am_adv (am_wr π σ f v x) (K + 1))) : fb_V E fb_Mo_write 0 [.inr 5, .inl f, .inl v, .inl x, .inr 999] [] σ (fun _ s8 => (0 ≤ ((s8.1 185) - 1) ∧ ((s8.1 185) - 1) < 8) ∧ (Q 0 (fb_sm s8 55 ((s8.1 185) - 1) (K + 1)))) := by
  apply X.wr f0 f1 hv hx
  rw [am_wr_185]
  refine ⟨h185, ?_⟩
  unfold am_adv at q
  rw [am_wr_185] at q
  exact q
theorem mo_snd_185 (b : Int) : (am_snd σ b).1 185 = σ.1 185 ∧ (am_snd σ b).1 186 = σ.1 186 + 1 ∧ (am_snd σ b).2 56 = σ.2 56 ∧ fr_a [55, 56, 57] [183, 184, 185, 186] σ (am_snd σ b) := by
  unfold am_snd
  split
  · exact ⟨rfl, rfl, rfl, fr_sg (fr_rf _ _ _) (by decide)⟩
  · exact ⟨rfl, rfl, by rw [fb_sg2, fb_ne (by decide)], fr_sg (fr_sm (fr_rf _ _ _) (by decide)) (by decide)⟩
theorem mo_out (X : mo_X π L σ) (h : am_vK π K) (h185 : 0 ≤ σ.1 185 - 1 ∧ σ.1 185 - 1 < 8) (hs : 0 ≤ σ.1 186 ∧ σ.1 186 < 2147480000) (ho : π.2 17 (am_xk π K) = 15) (q : Q 0 (am_adv (if iv_z π (K / 24) (π.2 18 (am_xk π K)) = 2 then am_snd (am_snd σ (σ.2 56 (ly_p π (K / 24) (π.2 18 (am_xk π K)) 0))) (σ.2 56 (ly_p π (K / 24) (π.2 18 (am_xk π K)) 0 + 1)) else am_snd σ (σ.2 56 (ly_p π (K / 24) (π.2 18 (am_xk π K)) 0))) (K + 1))) : fb_V E fb_Mo_straight 29 [.inr 5, .inl (K / 24), .inl K, .inr 999, .inl (ly_p π (K / 24) (π.2 18 (am_xk π K)) 0), .inl 0, .inr 999] [] σ Q := by
  have hv := am_vK_k X.1 h
  obtain ⟨e43, e44, e45, e46, e53, e52, hfi⟩ := mo_at X h
  have hsc := hfi.2.2.2.2.2.2.2.2.2.2.2.2.2.2 ho
  clear hfi
  have hsc' : iv_z π (K / 24) (π.2 18 (am_xk π K)) = 1 ∨ iv_z π (K / 24) (π.2 18 (am_xk π K)) = 2 := hsc
  have hne : iv_z π (K / 24) (π.2 18 (am_xk π K)) ≠ 0 := by omega
  have hp := ly_p0 X.1 X.2.1 hv.1.1 hv.1.2 hne
  have hz := X.sz hv.1.1 hv.1.2 hne
  generalize hk : am_xk π K = k at *
  have s1 := mo_snd_185 (σ := σ) (σ.2 56 (ly_p π (K / 24) (π.2 18 k) 0))
  have X1 := mo_X_fr X s1.2.2.2
  have m1 := mo_at X1 h
  rw [hk] at m1
  have hz1 := X1.sz hv.1.1 hv.1.2 hne
  apply Mo_straight_b29
  rw [e44, hz.1]
  refine ⟨hv.2.2.2.2.2, hz.2, by omega, by omega, fun le => by omega, fun _ => ⟨by omega, ?_⟩⟩
  rw [Int.add_zero]
  apply mo_snd (by omega)
  rw [show (0 : Int) + 1 = 1 from rfl]
  apply Mo_straight_b29
  rw [m1.2.1, hz1.1, s1.1]
  refine ⟨hv.2.2.2.2.2, hz.2, by omega, by omega, fun le => ⟨h185, ?_⟩, fun le => ⟨by omega, ?_⟩⟩
  · rw [if_neg (by omega)] at q
    unfold am_adv at q
    rw [s1.1] at q
    exact q
  · rw [if_pos (by omega)] at q
    rw [s1.2.2.1]
    apply mo_snd (by rw [s1.2.1]; omega)
    have s2 := mo_snd_185 (σ := am_snd σ (σ.2 56 (ly_p π (K / 24) (π.2 18 k) 0))) (σ.2 56 (ly_p π (K / 24) (π.2 18 k) 0 + 1))
    have X2 := mo_X_fr X1 s2.2.2.2
    have m2 := mo_at X2 h
    rw [hk] at m2
    have hz2 := X2.sz hv.1.1 hv.1.2 hne
    rw [show (1 : Int) + 1 = 2 from rfl]
    apply Mo_straight_b29
    rw [m2.2.1, hz2.1, s2.1, s1.1]
    refine ⟨hv.2.2.2.2.2, hz.2, by omega, by omega, fun le => ⟨h185, ?_⟩, fun le => by omega⟩
    unfold am_adv at q
    rw [s2.1, s1.1] at q
    exact q
theorem mo_strt (X : mo_X π L σ) (h : am_vK π K) (hd : ∀ j, 0 ≤ j → j < 128 → 0 ≤ σ.2 56 j ∧ σ.2 56 j ≤ 255) (h185 : 0 ≤ σ.1 185 - 1 ∧ σ.1 185 - 1 < 8) (hs : 0 ≤ σ.1 186 ∧ σ.1 186 < 2147480000) (ho : (0 ≤ π.2 17 (am_xk π K) ∧ π.2 17 (am_xk π K) ≤ 7) ∨ π.2 17 (am_xk π K) = 15) (q : Q 0 (am_do π L σ K (K / 24) (am_xk π K))) : fb_V E fb_Mo_straight 0 [.inr 5, .inl (K / 24), .inl K, .inr 999, .inr 999, .inr 999, .inr 999] [] σ Q := by
  have hv := am_vK_k X.1 h
  obtain ⟨e43, e44, e45, e46, e53, e52, hfi⟩ := mo_at X h
  have p0 := hfi.2.2.2.2.1
  have p1 := hfi.2.2.2.2.2.1
  have p2 := hfi.2.2.2.2.2.2.1
  have p7 := hfi.2.2.2.2.2.2.2.1
  have p15 := hfi.2.2.2.2.2.2.2.2.2.2.2.2.2.2
  clear hfi
  have hout := mo_out (E := E) (Q := Q) X h h185 hs
  generalize hk : am_xk π K = k at *
  have rdn : ∀ v, iv_sc (iv_z π (K / 24)) v → 0 ≤ am_rd π (σ.2 56) (K / 24) v ∧ am_rd π (σ.2 56) (K / 24) v ≤ 65535 := by
    intro v hv'
    refine (am_rd_in (v := v) hd X.1 X.2.1 hv.1.1 hv.1.2 ?_).1
    unfold iv_sc at hv'
    omega
  unfold am_do at q
  have ran : -2147483648 ≤ π.2 17 k ∧ π.2 17 k < 2147483648 := by clear p0 p1 p2 p7 p15; omega
  have nn : ¬ π.2 17 k = 10 ∧ ¬ π.2 17 k = 11 ∧ ¬ π.2 17 k = 12 ∧ ¬ π.2 17 k = 8 ∧ ¬ π.2 17 k = 9 ∧ ¬ π.2 17 k = 13 ∧ ¬ π.2 17 k = 14 := by clear p0 p1 p2 p7 p15; omega
  rw [if_neg nn.1, if_neg nn.2.1, if_neg nn.2.2.1, if_neg nn.2.2.2.1, if_neg nn.2.2.2.2.1, if_neg nn.2.2.2.2.2.1, if_neg nn.2.2.2.2.2.2] at q
  have wv : ∀ (a x : Int) {v : Int}, iv_sc (iv_z π (K / 24)) v → (-65535 ≤ x ∧ x ≤ 131070) → Q 0 (am_adv (am_wr π σ (K / 24) v x) (K + 1)) → fb_V E fb_Mo_write 0 [.inr 5, .inl (K / 24), .inl v, .inl x, .inr 999] [] σ (fun _ s8 => (0 ≤ ((s8.1 185) - 1) ∧ ((s8.1 185) - 1) < 8) ∧ (Q 0 (fb_sm s8 55 ((s8.1 185) - 1) (K + 1)))) :=
    fun _ x _ hsc hx hq => mo_wadv X hv.1.1 hv.1.2 hsc (by omega) h185 hq
  apply Mo_straight_b0
  rw [e43, e44, e45]
  refine ⟨hv.2.2.2.2.2, ran, fun n15 => ⟨fun n0 => ⟨fun n7 => ?_, fun y7 => ?_⟩, fun y0 => ?_⟩, fun y15 => ?_⟩
  · rw [if_neg n15, if_neg n0] at q
    by_cases y1 : π.2 17 k = 1
    · obtain ⟨ha, hb⟩ := p1 y1
      have hx := rdn _ hb
      clear p0 p1 p2 p7 p15 ho
      rw [if_neg n7, if_neg (by omega)] at q
      apply X.rd hv.1.1 hv.1.2 hb
      refine ⟨fun _ => ?_, fun g => by omega⟩
      apply mo_cmp _ _ _ (by omega) (by omega) (by omega)
      rw [e44]
      exact wv 0 _ ha (am_cmp_in _ _ _ hx (by omega)) q
    · have o26 : 2 ≤ π.2 17 k ∧ π.2 17 k ≤ 6 := by clear p0 p1 p2 p7 p15; omega
      obtain ⟨ha, hb, hc⟩ := p2 o26
      have hx := rdn _ hb
      have hy := rdn _ hc
      clear p0 p1 p2 p7 p15 ho
      rw [if_neg n7, if_pos o26] at q
      apply X.rd hv.1.1 hv.1.2 hb
      refine ⟨fun g => by omega, fun _ => ⟨fun g => by omega, fun _ => ?_⟩⟩
      rw [e46]
      apply X.rd hv.1.1 hv.1.2 hc
      apply mo_cmp _ _ _ (by omega) (by omega) (by omega)
      rw [e44]
      exact wv 0 _ ha (am_cmp_in _ _ _ hx hy) q
  · rw [if_neg n15, if_neg n0, if_pos y7, if_neg (by clear p0 p1 p2 p7 p15; omega)] at q
    have ha := p7 y7
    have hx := rdn _ ha
    clear p0 p1 p2 p7 p15 ho
    apply X.rd hv.1.1 hv.1.2 ha
    refine ⟨fun g => by omega, fun _ => ⟨fun _ => ?_, fun g => by omega⟩⟩
    apply mo_cmp _ _ _ (by omega) (by omega) (by omega)
    rw [e44]
    exact wv 0 _ ha (am_cmp_in _ _ _ hx (by omega)) q
  · rw [if_neg n15, if_pos y0] at q
    obtain ⟨ha, hb⟩ := p0 y0
    clear p0 p1 p2 p7 p15 ho
    exact wv 0 _ ha (by omega) q
  · rw [if_pos y15] at q
    have ha := p15 y15
    have hne : iv_z π (K / 24) (π.2 18 k) ≠ 0 := by
      clear p0 p1 p2 p7 p15
      unfold iv_sc at ha
      omega
    apply X.pl hv.1.1 hv.1.2 hne
    exact hout y15 q
theorem mo_step (X : mo_X π L σ) (W : am_W π σ) (hs : 0 ≤ σ.1 186 ∧ σ.1 186 < 2147480000) (h6 : π.2 17 (am_xk π (am_K σ)) = 13 → σ.1 185 < 8) (q : Q 0 (am_st π L σ)) : fb_V E fb_Mo_step 0 [.inr 5, .inr 999, .inr 999, .inr 999, .inr 999] [] σ Q := by
  have W' := W
  obtain ⟨w1, w2, w3, w4, w5⟩ := W
  have h : am_vK π (am_K σ) := w2 _ (by omega) (by omega)
  have hv := am_vK_k X.1 h
  obtain ⟨e43, e44, e45, e46, e53, e52, hfi⟩ := mo_at X h
  have q0 := hfi.1
  have p11 := hfi.2.2.2.2.2.2.2.2.2.2.1
  have p12 := hfi.2.2.2.2.2.2.2.2.2.2.2.1
  clear hfi
  unfold am_st at q
  rw [← e53] at q
  have fr1 : ∀ x, fr_a [55, 56, 57] [183, 184, 185, 186] σ (fb_sg σ 184 x) := fun x => fr_sg (fr_rf _ _ _) (by decide)
  have X1 := mo_X_fr X (fr1 (σ.1 184 + σ.2 53 (am_K σ)))
  have W1 : am_W π (fb_sg σ 184 (σ.1 184 + σ.2 53 (am_K σ))) := W'
  have hK1 : am_K σ = am_K (fb_sg σ 184 (σ.1 184 + σ.2 53 (am_K σ))) := rfl
  obtain ⟨σ1, hσ1⟩ : ∃ s, s = fb_sg σ 184 (σ.1 184 + σ.2 53 (am_K σ)) := ⟨_, rfl⟩
  have z185 : σ1.1 185 = σ.1 185 := by rw [hσ1]; rfl
  have z186 : σ1.1 186 = σ.1 186 := by rw [hσ1]; rfl
  have z2 : σ1.2 = σ.2 := by rw [hσ1]; rfl
  rw [← hσ1] at q X1 W1 hK1
  have m1 := mo_at X1 h
  have w51 := W1.2.2.2.2
  have go : fb_V E fb_Mo_goal 0 [.inr 5, .inl (am_K σ)] [] σ1 (fun r32 s33 => Q 0 (fb_sm s33 55 (σ.1 185 - 1) (24 * (am_K σ / 24) + r32))) → π.2 17 (am_xk π (am_K σ)) = 10 → fb_V E fb_Mo_goal 0 [.inr 5, .inl (am_K σ)] [] σ1 (fun r32 s33 => Q 0 (fb_sm s33 55 (σ.1 185 - 1) (24 * (am_K σ / 24) + r32))) := fun x _ => x
  have rdn : ∀ v, iv_sc (iv_z π (am_K σ / 24)) v → 0 ≤ am_rd π (σ1.2 56) (am_K σ / 24) v ∧ am_rd π (σ1.2 56) (am_K σ / 24) v ≤ 65535 := by
    intro v hv'
    refine (am_rd_in (v := v) w51 X.1 X.2.1 hv.1.1 hv.1.2 ?_).1
    unfold iv_sc at hv'
    omega
  apply Mo_step_b0
  rw [show σ.2 55 (σ.1 185 - 1) = am_K σ from rfl, e43, e44, ← hσ1]
  refine ⟨by omega, by omega, hv.2.2.2.2.2, by omega, fun n10 => ⟨fun n11 => ⟨fun n12 => ⟨fun y8 => ?_, fun n8 => ⟨fun n9 => ⟨fun n13 => ⟨fun n14 => ?_, fun y14 => ?_⟩, fun y13 => ?_⟩, fun y9 => ?_⟩⟩, fun y12 => ?_⟩, fun y11 => ?_⟩, fun y10 => ?_⟩
  · exact mo_tch X1 h w51 (by omega) (Or.inl y8) q
  · exact mo_strt X1 h w51 (by omega) (by omega) (by omega) q
  · unfold am_do at q
    rw [if_neg n10, if_neg n11, if_neg n12, if_neg n8, if_neg n9, if_neg n13, if_pos y14] at q
    exact mo_lv X1 W1 hK1 y14 q
  · unfold am_do at q
    rw [if_neg n10, if_neg n11, if_neg n12, if_neg n8, if_neg n9, if_pos y13] at q
    have := h6 y13
    exact mo_ent X1 h w51 (by omega) y13 q
  · exact mo_tch X1 h w51 (by omega) (Or.inr y9) q
  · unfold am_do at q
    rw [if_neg n10, if_neg n11, if_pos y12] at q
    obtain ⟨ha, hb⟩ := p12 y12
    have hx := rdn _ ha
    have hy := rdn _ hb
    apply X1.rd hv.1.1 hv.1.2 ha
    rw [m1.2.2.1]
    apply X1.rd hv.1.1 hv.1.2 hb
    refine ⟨by omega, by omega, fun le => ?_, fun le => ?_⟩
    · rw [decide_eq_false (by omega)] at q
      exact mo_dcd X1 h (by omega) (Or.inr y12) 0 false rfl q
    · rw [decide_eq_true (by omega)] at q
      exact mo_dcd X1 h (by omega) (Or.inr y12) 1 true rfl q
  · unfold am_do at q
    rw [if_neg n10, if_pos y11] at q
    have ha := p11 y11
    have hx := rdn _ ha
    apply X1.rd hv.1.1 hv.1.2 ha
    refine ⟨by omega, fun le => ?_, fun le => ?_⟩
    · rw [decide_eq_false le] at q
      exact mo_dcd X1 h (by omega) (Or.inl y11) 0 false rfl q
    · rw [decide_eq_true le] at q
      exact mo_dcd X1 h (by omega) (Or.inl y11) 1 true rfl q
  · unfold am_do at q
    rw [if_pos y10] at q
    apply mo_gl X1 h (Or.inl y10)
    intro r hr
    rw [hr]
    unfold am_adv at q
    rw [z185] at q
    exact q
end MS2
