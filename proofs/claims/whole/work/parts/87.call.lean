/-! the class's run: CALL, RETURN; a whole instruction -/
section CR
variable {E : fb_E} {π σ τ α β : fb_S} {L : Int → Int} {S k s n q a x c z K f v : Int} {d : Int → Int} {l m : em_I} {Q : Int → fb_S → Prop}
theorem rc_gen {γ σ' : fb_S} {k' w : Int} (M : pm σ' τ (ly_a π L k') w d a x c z) (hk : am_xk π (am_K γ) = k') (H : hv d a (ly_i π L k')) (e183 : γ.1 183 = 0) (s133 : σ'.1 133 = 0) (e184 : γ.1 184 = σ'.1 134 + w) (ed : γ.2 56 = d) (s135 : σ'.1 135 = γ.1 186) (s38 : ∀ j, 0 ≤ j → j < 100 → j < γ.1 186 → σ'.2 38 j = γ.2 57 j) (s132 : σ'.1 132 = γ.1 185 - 1) (s39 : ∀ j, 0 ≤ j → j + 1 < γ.1 185 → σ'.2 39 j = rt π L (am_xk π (γ.2 55 j))) : Rc π L γ τ := by
  obtain ⟨f0, ⟨f1, f2⟩, f3, ⟨f4, f5⟩, ⟨f6, f7⟩, ⟨f8, f9⟩, f10⟩ := M
  refine ⟨(f0.1 133 (by decide)).trans (s133.trans e183.symm), ?_, (f0.1 135 (by decide)).trans s135, fun j j0 j1 j2 => ?_, fun _ => ⟨?_, ?_, ?_, ?_, ?_, ?_⟩⟩
  · omega
  · rw [f0.2 38 (by simp)]
    exact s38 j j0 j1 j2
  · rw [f0.1 132 (by decide)]; exact s132
  · rw [hk]; exact f1
  · intro j j0 j1
    rw [ed]; exact (f3 j j0 j1).1
  · rw [f4, f6, f8, f10.1]; exact ⟨f5, f7, f9, f10.2⟩
  · rw [hk, ed, f4]; exact H
  · intro j j0 j1
    rw [f0.2 39 (by simp)]
    exact s39 j j0 j1
theorem cl_of (X : cx π L β σ K k f) (ho : π.2 17 k = 13) : ly_c π L k = (cl π k ++ [(19, ly_a π L (ly_gi π k))]) ++ it_res (iv_z π f) (ly_p π f) (π.2 20 k) ∧ ly_w1 π L k = em_W (ly_i π L k) (cl π k ++ [(19, ly_a π L (ly_gi π k))]) := by
  have e16 := X.at.2.2.1
  constructor
  · rw [lc_16 X, ho]
    unfold cl
    rw [e16]
    rfl
  · unfold ly_w1 cl
    rw [if_pos ho, em_W_app, em_W_app]
    rfl
theorem ps_fs (hP : iv_P π) (f0 : 0 ≤ f) (f6 : f < 6) (hv : iv_z π f v ≠ 0) : iv_ps π f v.toNat + iv_z π f v ≤ iv_fs π f := by
  have rv := iv_sc_in hv
  have zv : iv_z π f v = π.2 (7 + f.toNat) v := by unfold iv_z; rw [if_pos rv]
  have := ps_le hP f0 f6 (i := v.toNat) (π.2 13 f).toNat (by omega) (by omega)
  rw [show ((v.toNat : Nat) : Int) = v by omega, ← zv] at this
  exact this
theorem am_ent_g {π α : fb_S} {f g a : Int} : am_ent π α f g a = (fun β => fb_sg (fb_sm β 55 (β.1 185) (24 * g)) 185 (β.1 185 + 1)) (if iv_z π g 0 = 1 ∨ iv_z π g 0 = 2 then am_wr π α g 0 (am_rd π (α.2 56) f a) else α) := rfl
theorem so_call (X : cx π L β σ K k f) (ho : π.2 17 k = 13) (h : ∀ τ, fr_a po_A po_G σ τ ∧ Rc π L (am_ent π (b1 π L β k) f (π.2 18 k) (π.2 19 k)) τ → Q 0 τ) : fb_V E fb_Po_performOne 0 [.inr 4, .inr 999, .inr 999] [] σ Q := by
  have hP := X.1.1
  have hg := X.1.2.1
  have hA := hP.1
  unfold iv_A at hA
  obtain ⟨hf, hk, e16, ekx, hfi⟩ := X.at
  have hsc := hfi.2.2.2.2.2.2.2.2.2.2.2.2.1 ho
  clear hfi
  have C := X.gc
  have hx := X.rl.2.2.2.1.2.1
  have hd := X.2.1.2.2.2.2
  have hn := X.2.1.1
  obtain ⟨r1, r2, r3, r4, r5, r6⟩ := X.rl
  have hcl := cl_of X ho
  have nx := (X.nx (by omega) (by omega)).1
  have N : ∀ m, nl π k m := fun m => Or.inl nx
  have hroom := am_room hP hg X.2.1 (by rw [← X.2.2.2.2.2.1, ← X.2.2.2.2.2.2.1]; exact ho)
  rw [← X.2.2.2.2.2.1, ← X.2.2.2.2.2.2.1, ← X.2.2.2.2.2.2.2] at hroom
  have hgr := hg.2.2.1 k hk.1 hk.2 ho
  have egi : ly_gi π k = π.2 14 (π.2 18 k) := by
    unfold ly_gi
    rw [if_pos ho]
  have hne := (hg.1.2 (π.2 18 k) hgr.1 hgr.2).1
  have hb15 := (hP.2.1 (π.2 18 k) hgr.1 (by omega)).2.2.1
  have hfk := iv_fk hP hgr.1 hgr.2 (show (0 : Int) ≤ 0 by omega) (by omega)
  rw [Int.add_zero, ← egi] at hfk
  have hgi := hfk.1
  have hi : ly_i π L (ly_gi π k) = -1 := ly_i_y (Or.inl (by rw [hfk.2.1]; exact egi))
  have hset := iv_settled hg.2.2.2.1 hroom.2.2 hroom.2.1
  have pb := pl_sc hP hg hf.1 hf.2 hsc.1 (σ.1 138)
  have rd := rd_eq (d := β.2 56) hsc.1 pb.1 (fun g => (pb.2.2.2 g).2) (σ.1 138)
  have b0 := px_m_in hx.1 hd pb.2.1
  have b1' := px_m_in hx.1 hd pb.2.2.1
  have R := X.2.2.2.1
  -- the end: data d, items l, A
  have fin : ∀ (γ : fb_S) (d : Int → Int) (a c z : Int), γ.2 56 = d → γ.2 55 = β.2 55 → γ.2 57 = β.2 57 → γ.1 = (b1 π L β k).1 → am_ent π (b1 π L β k) f (π.2 18 k) (π.2 19 k) = fb_sg (fb_sm γ 55 (γ.1 185) (24 * π.2 18 k)) 185 (γ.1 185 + 1) → Gt 0 E π L k σ Q (cl π k) ((19, ly_a π L (ly_gi π k)) :: it_res (iv_z π f) (ly_p π f) (π.2 20 k)) d a (σ.1 138) c z := by
    intro γ d a c z g56 g55 g57 g1 ge
    have g185 : γ.1 185 = β.1 185 := by rw [g1]; rfl
    apply g_jsr C hgi (by omega)
    intro τ M
    refine h τ ⟨fr_tr (fr_sg (fr_sm (fr_rf _ _ _) (by decide)) (by decide)) (po_up M.1), ?_⟩
    rw [ge]
    have eK : am_K (fb_sg (fb_sm γ 55 (γ.1 185) (24 * π.2 18 k)) 185 (γ.1 185 + 1)) = 24 * π.2 18 k := by
      show (fb_sm γ 55 (γ.1 185) (24 * π.2 18 k)).2 55 (γ.1 185 + 1 - 1) = _
      rw [fb_at, if_pos (by omega)]
    refine rc_gen (γ := fb_sg (fb_sm γ 55 (γ.1 185) (24 * π.2 18 k)) 185 (γ.1 185 + 1)) M ?_ (by rw [hi]; exact hv_n) ?_ ?_ ?_ ?_ ?_ ?_ ?_ ?_
    · rw [eK]
      unfold am_xk
      rw [show 24 * π.2 18 k / 24 = π.2 18 k by omega, show 24 * π.2 18 k % 24 = 0 by omega, egi, Int.add_zero]
    · show γ.1 183 = 0
      rw [g1]; exact X.2.2.1
    · exact C.2.2
    · show γ.1 184 = σ.1 134 + _
      rw [g1, ← hcl.2, R.2.1]; rfl
    · rw [fb_sg2, fb_ne (by decide)]; exact g56
    · show σ.1 135 = γ.1 186
      rw [g1]; exact R.2.2.1
    · show ∀ j, 0 ≤ j → j < 100 → j < γ.1 186 → _
      intro j j0 j1 j2
      rw [fb_sg2, fb_sg2, fb_ne (by decide), fb_ne (by decide), g57]
      exact R.2.2.2.1 j j0 j1 (by rw [g1] at j2; exact j2)
    · show σ.1 132 + 1 = γ.1 185 + 1 - 1
      omega
    · intro j j0 j1
      have j2 : j + 1 < β.1 185 + 1 := by rw [← g185]; exact j1
      rw [fb_sg2, fb_sg2, fb_at, fb_at, g55]
      by_cases e : j = σ.1 132
      · rw [if_pos e, if_neg (by omega)]
        have eK2 : β.2 55 j = K := by
          rw [X.2.2.2.2.2.1]
          unfold am_K
          rw [e, r1]
        rw [eK2, ← X.2.2.2.2.2.2.1]
        rfl
      · rw [if_neg e, if_neg (by omega)]
        exact r6 j j0 (by omega)
  have ep : ∀ (zg pg : Int), it_par (ly_p π f) zg pg (π.2 19 k) = if zg = 1 then [(0, ly_p π f (π.2 19 k) 0), (1, pg)] else if zg = 2 then [(0, ly_p π f (π.2 19 k) 0), (1, pg), (0, ly_p π f (π.2 19 k) 1), (1, pg + 1)] else [] := fun _ _ => rfl
  have ecl : cl π k = it_par (ly_p π f) (iv_z π (π.2 18 k) 0) (ly_p π (π.2 18 k) 0 0) (π.2 19 k) := by
    unfold cl
    rw [e16]
  apply po_enter X
  rw [hcl.1, List.append_assoc]
  rw [ecl, ep] at fin
  rw [ecl, ep]
  have b56 : (b1 π L β k).2 56 = β.2 56 := rfl
  by_cases g1 : iv_z π (π.2 18 k) 0 = 1
  · rw [if_pos g1] at fin ⊢
    have hp := ly_p0 hP hg hgr.1 hgr.2 (show iv_z π (π.2 18 k) 0 ≠ 0 by omega)
    apply g_lda C (N _) pb.2.1
    intro z1 _
    apply g_sta C (N _) (Or.inl (by omega)) (by omega)
    refine fin (am_wr π (b1 π L β k) (π.2 18 k) 0 (am_rd π (β.2 56) f (π.2 19 k))) _ _ _ _ ?_ ?_ ?_ am_wr_185 ?_
    · rw [am_wr_56, if_neg (by omega), rd, px_o_1 (by omega), b56]
      generalize px_m (β.2 56) (σ.1 138) (ly_p π f (π.2 19 k) 0) = u at *
      generalize px_m (β.2 56) (σ.1 138) (ly_p π f (π.2 19 k) 1) = w at *
      rw [show (u + 256 * w) % 256 = u by omega]
    · rw [am_wr_55]; rfl
    · rw [am_wr_57]; rfl
    · unfold am_ent
      rw [if_pos (Or.inl g1), b56]
  · rw [if_neg g1] at fin ⊢
    by_cases g2 : iv_z π (π.2 18 k) 0 = 2
    · rw [if_pos g2] at fin ⊢
      have hp := ly_p0 hP hg hgr.1 hgr.2 (show iv_z π (π.2 18 k) 0 ≠ 0 by omega)
      have un : ∀ w, px_m (up (β.2 56) (ly_p π (π.2 18 k) 0 0) w) (σ.1 138) (ly_p π f (π.2 19 k) 1) = px_m (β.2 56) (σ.1 138) (ly_p π f (π.2 19 k) 1) := by
        intro w
        by_cases gb : iv_z π f (π.2 19 k) = 2
        · have e1 := pb.2.2.2 gb
          have hpb := ly_p0 hP hg hf.1 hf.2 (show iv_z π f (π.2 19 k) ≠ 0 by omega)
          have hfs := ps_fs hP hf.1 (show f < 6 by omega) (show iv_z π f (π.2 19 k) ≠ 0 by omega)
          have hp0 : (0 : Int) ≤ iv_ps π (π.2 18 k) (0 : Int).toNat := Int.le_refl 0
          rw [px_m_1 (by omega), px_m_1 (by omega)]
          apply up_n
          omega
        · rw [(lp_1 hsc.1).2 gb, px_m_2 (by omega) (by omega), px_m_2 (by omega) (by omega)]
      apply g_lda C (N _) pb.2.1
      intro z1 _
      apply g_sta C (N _) (Or.inl (by omega)) (by omega)
      apply g_lda C (N _) pb.2.2.1
      intro z2 _
      apply g_sta C (N _) (Or.inl (by omega)) (by omega)
      refine fin (am_wr π (b1 π L β k) (π.2 18 k) 0 (am_rd π (β.2 56) f (π.2 19 k))) _ _ _ _ ?_ ?_ ?_ am_wr_185 ?_
      · rw [am_wr_56, if_pos g2, rd, px_o_1 (show ly_p π (π.2 18 k) 0 0 < 256 by omega), px_o_1 (by omega), un, b56]
        generalize px_m (β.2 56) (σ.1 138) (ly_p π f (π.2 19 k) 0) = u at *
        generalize px_m (β.2 56) (σ.1 138) (ly_p π f (π.2 19 k) 1) = w at *
        rw [show (u + 256 * w) % 256 = u by omega, show (u + 256 * w) / 256 % 256 = w by omega]
      · rw [am_wr_55]; rfl
      · rw [am_wr_57]; rfl
      · unfold am_ent
        rw [if_pos (Or.inr g2), b56]
    · rw [if_neg g2] at fin ⊢
      refine fin (b1 π L β k) _ _ _ _ rfl rfl rfl rfl ?_
      unfold am_ent
      rw [if_neg (by omega)]
end CR
