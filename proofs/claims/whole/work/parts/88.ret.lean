/-! the class's run: RETURN; a whole instruction -/
section RT
variable {E : fb_E} {π σ τ α β : fb_S} {L : Int → Int} {S k s n q a x c z K f v : Int} {d : Int → Int} {l m : em_I} {Q : Int → fb_S → Prop}
theorem px_un {w x o : Int} (hP : iv_P π) (hg : iv_good π) (f0 : 0 ≤ f) (f1 : f < π.1 41) (hv : iv_sc (iv_z π f) v) (ho : 120 ≤ o ∧ o < 128) : px_m (up d o w) x (ly_p π f v 1) = px_m d x (ly_p π f v 1) ∧ px_m (up d o w) x (ly_p π f v 0) = px_m d x (ly_p π f v 0) := by
  have p := pl_sc hP hg f0 f1 hv x
  constructor
  · by_cases g : iv_z π f v = 2
    · have := p.2.2.2 g
      rw [px_m_1 (by omega), px_m_1 (by omega), up_n (by omega)]
    · rw [(lp_1 hv).2 g, px_m_2 (by omega) (by omega), px_m_2 (by omega) (by omega)]
  · rw [px_m_1 (by omega), px_m_1 (by omega), up_n (by omega)]
theorem cl_2 (ho : π.2 17 k = 13) (e16 : π.2 16 k = f) : ly_c π L k = (cl π k ++ [(19, ly_a π L (ly_gi π k))]) ++ it_res (iv_z π f) (ly_p π f) (π.2 20 k) := by
  unfold ly_c ly_it cl
  rw [e16, ho]
  rfl
/-- the caller's rest, behind its JSR -/
theorem so_tail {σ' : fb_S} {k' f' : Int} (C : gc π L k' σ') (ho : π.2 17 k' = 13) (e16 : π.2 16 k' = f') (nx : k' + 1 < π.1 42) (hf : 0 ≤ f' ∧ f' < π.1 41) (hsc : iv_sc (iv_z π f') (π.2 20 k')) {y : Int} (hy0 : d 126 = y % 256) (hy1 : d 127 = y / 256 % 256)
    (h : ∀ τ d' a x c z, pm σ' τ (ly_a π L (k' + 1)) (em_W (ly_i π L k') (cl π k' ++ [(19, ly_a π L (ly_gi π k'))]) + ly_w2 π k') d' a x c z → hv d' a (ly_i π L (k' + 1)) → (d' = if iv_z π f' (π.2 20 k') = 2 then up (up d (ly_p π f' (π.2 20 k') 0) (y % 256)) (ly_p π f' (π.2 20 k') 0 + 1) (y / 256 % 256) else up d (ly_p π f' (π.2 20 k') 0) (y % 256)) → Q 0 τ) : Gt S E π L k' σ' Q (cl π k' ++ [(19, ly_a π L (ly_gi π k'))]) (it_res (iv_z π f') (ly_p π f') (π.2 20 k')) d a x c z := by
  have hP := C.1.1
  have hg := C.1.2.1
  have p := pl_sc hP hg hf.1 hf.2 hsc x
  have N : ∀ m, nl π k' m := fun m => Or.inl nx
  have ew : ly_c π L k' = (cl π k' ++ [(19, ly_a π L (ly_gi π k'))]) ++ it_res (iv_z π f') (ly_p π f') (π.2 20 k') → em_W (ly_i π L k') (ly_c π L k') = em_W (ly_i π L k') (cl π k' ++ [(19, ly_a π L (ly_gi π k'))]) + ly_w2 π k' := by
    intro e
    rw [e, em_W_app, em_H_1]
    unfold ly_w2
    rw [e16]
    rfl
  have fin : ∀ (τ : fb_S) (s : Int) (d' : Int → Int) (a x c z : Int), ly_c π L k' = (cl π k' ++ [(19, ly_a π L (ly_gi π k'))]) ++ it_res (iv_z π f') (ly_p π f') (π.2 20 k') → pt S π L k' σ' (ly_c π L k') τ s d' a x c z → (d' = if iv_z π f' (π.2 20 k') = 2 then up (up d (ly_p π f' (π.2 20 k') 0) (y % 256)) (ly_p π f' (π.2 20 k') 0 + 1) (y / 256 % 256) else up d (ly_p π f' (π.2 20 k') 0) (y % 256)) → Q 0 τ := by
    intro τ s d' a x c z e P ed
    obtain ⟨M, H, -⟩ := P
    have ep : pp π L k' (ly_c π L k') = ly_a π L (k' + 1) := (ly_a_s (π := π) (L := L) C.2.1.1 (ly_a π L (ly_gi π k')) (ly_b π L k')).symm
    rw [ep, ew e] at M
    exact h τ d' a x c z M (hv_next C.2.1.1 H) ed
  have q6 : qi x 126 := by unfold qi; omega
  have q7 : qi x 127 := by unfold qi; omega
  have fin0 := fun τ s d' a x c z => fin τ s d' a x c z (cl_2 ho e16)
  unfold it_res
  by_cases g : iv_z π f' (π.2 20 k') = 2
  · rw [it_2_2 g]
    have p1 := p.2.2.2 g
    apply g_lda C (N _) q6
    intro z1 _
    apply g_sta C (N _) p.2.1 (by omega)
    apply g_lda C (N _) q7
    intro z2 _
    apply g_sta C (N _) p.2.2.1 (by omega)
    refine g_end (fun τ s P => fin0 _ _ _ _ _ _ _ P ?_) C.2.1.1
    rw [if_pos g, px_o_1 (show ly_p π f' (π.2 20 k') 0 < 256 by omega), px_o_1 (show ly_p π f' (π.2 20 k') 1 < 256 by omega), p1.1, px_m_1 (show (126 : Int) < 256 by omega), px_m_1 (show (127 : Int) < 256 by omega), up_n (by omega), hy0, hy1]
  · rw [it_2_1 g]
    apply g_lda C (N _) q6
    intro z1 _
    apply g_sta C (N _) p.2.1 (by omega)
    refine g_end (fun τ s P => fin0 _ _ _ _ _ _ _ P ?_) C.2.1.1
    rw [if_neg g, px_o_1 (show ly_p π f' (π.2 20 k') 0 < 256 by omega), px_m_1 (show (126 : Int) < 256 by omega), hy0]
theorem rt_in (C : pk π L σ) (k0 : 0 ≤ k) (k1 : k < π.1 42) (ho : π.2 17 k = 13) : ly_a π L k < rt π L k ∧ rt π L k < ly_a π L (k + 1) := by
  have h := pi_cb C k0 k1 (l := []) (m1 := cl π k ++ [(19, ly_a π L (ly_gi π k))]) (m2 := it_res (iv_z π (π.2 16 k)) (ly_p π (π.2 16 k)) (π.2 20 k)) (cl_2 ho rfl)
  have e0 : pp π L k [] = ly_a π L k := by
    show ly_a π L k + ((0 : Nat) : Int) = _
    omega
  have p1 := em_B_pos (cl π k ++ [(19, ly_a π L (ly_gi π k))]) (hh π L k []) ⟨(19, ly_a π L (ly_gi π k)), by simp, show ¬ (19 : Int) = 0 ∧ (19 : Int) ≤ 31 by decide⟩
  have p2 := em_B_pos (it_res (iv_z π (π.2 16 k)) (ly_p π (π.2 16 k)) (π.2 20 k)) (hh π L k ([] ++ (cl π k ++ [(19, ly_a π L (ly_gi π k))]))) (ex_2 ⟨(1, ly_p π (π.2 16 k) (π.2 20 k) 0), by simp, show ¬ (1 : Int) = 0 ∧ (1 : Int) ≤ 31 by decide⟩)
  have er : rt π L k = pp π L k ([] ++ (cl π k ++ [(19, ly_a π L (ly_gi π k))])) := rfl
  omega
theorem so_ret (X : cx π L β σ K k f) (ho : π.2 17 k = 14) (h : ∀ τ, fr_a po_A po_G σ τ ∧ Rc π L (am_lv π (b1 π L β k) (am_rd π (β.2 56) f (π.2 18 k))) τ → Q 0 τ) : fb_V E fb_Po_performOne 0 [.inr 4, .inr 999, .inr 999] [] σ Q := by
  have hP := X.1.1
  have hg := X.1.2.1
  obtain ⟨hf, hk, e16, ekx, hfi⟩ := X.at
  have hsc := hfi.2.2.2.2.2.2.2.2.2.2.2.2.2.1 ho
  clear hfi
  have C := X.gc
  have hx := X.rl.2.2.2.1.2.1
  have W := X.2.1
  have hd := W.2.2.2.2
  have hn := W.1
  obtain ⟨r1, r2, r3, r4, r5, r6⟩ := X.rl
  have R := X.2.2.2.1
  have pa := pl_sc hP hg hf.1 hf.2 hsc (σ.1 138)
  have rd := rd_eq (d := β.2 56) hsc pa.1 (fun g => (pa.2.2.2 g).2) (σ.1 138)
  have a0 := px_m_in hx.1 hd pa.2.1
  have a1 := px_m_in hx.1 hd pa.2.2.1
  have un := fun w => (px_un (d := β.2 56) (w := w) (x := σ.1 138) (o := 126) hP hg hf.1 hf.2 hsc (by omega)).1
  have hw : em_W (ly_i π L k) (ly_c π L k) = ly_w1 π L k := w1_eq (by omega)
  have el : ly_c π L k = [(0, ly_p π f (π.2 18 k) 0), (1, 126), (0, ly_p π f (π.2 18 k) 1), (1, 127), (20, 0)] := by
    rw [lc_16 X, ho]
    rfl
  have N : ∀ m : em_I, (20, 0) ∈ m → nl π k m := fun m hm => Or.inr ⟨(20, 0), hm, by decide⟩
  have q6 : qi (σ.1 138) 126 := by unfold qi; omega
  have q7 : qi (σ.1 138) 127 := by unfold qi; omega
  apply po_enter X
  rw [el] at hw ⊢
  apply g_lda C (N _ (by simp)) pa.2.1
  intro z1 _
  apply g_sta C (N _ (by simp)) q6 (by omega)
  apply g_lda C (N _ (by simp)) pa.2.2.1
  intro z2 _
  apply g_sta C (N _ (by simp)) q7 (by omega)
  rw [px_o_1 (show (126 : Int) < 256 by omega), px_o_1 (show (127 : Int) < 256 by omega), un]
  have d56 : (am_lv0 (b1 π L β k) (am_rd π (β.2 56) f (π.2 18 k))).2 56 = up (up (β.2 56) 126 (px_m (β.2 56) (σ.1 138) (ly_p π f (π.2 18 k) 0))) 127 (px_m (β.2 56) (σ.1 138) (ly_p π f (π.2 18 k) 1)) := by
    unfold am_lv0
    rw [fb_sg2, up_sm, up_sm, rd, show (b1 π L β k).2 56 = β.2 56 from rfl]
    generalize px_m (β.2 56) (σ.1 138) (ly_p π f (π.2 18 k) 0) = u at *
    generalize px_m (β.2 56) (σ.1 138) (ly_p π f (π.2 18 k) 1) = w at *
    rw [show (u + 256 * w) % 256 = u by omega, show (u + 256 * w) / 256 = w by omega]
  have y0 : up (up (β.2 56) 126 (px_m (β.2 56) (σ.1 138) (ly_p π f (π.2 18 k) 0))) 127 (px_m (β.2 56) (σ.1 138) (ly_p π f (π.2 18 k) 1)) 126 = am_rd π (β.2 56) f (π.2 18 k) % 256 := by
    rw [up_n (by decide), up_y, rd]
    omega
  have y1 : up (up (β.2 56) 126 (px_m (β.2 56) (σ.1 138) (ly_p π f (π.2 18 k) 0))) 127 (px_m (β.2 56) (σ.1 138) (ly_p π f (π.2 18 k) 1)) 127 = am_rd π (β.2 56) f (π.2 18 k) / 256 % 256 := by
    rw [up_y, rd]
    omega
  rw [← d56] at y0 y1 ⊢
  clear d56
  generalize am_rd π (β.2 56) f (π.2 18 k) = y at *
  have e183 : (b1 π L β k).1 183 = 0 := X.2.2.1
  have e185 : (b1 π L β k).1 185 = β.1 185 := rfl
  apply g_rts C (by omega)
  · intro g τ p M
    refine h τ ⟨fr_tr (fr_sg (fr_rf _ _ _) (by decide)) (po_up M.1), ?_⟩
    unfold am_lv
    rw [if_pos (by omega)]
    obtain ⟨f0, ⟨f1, f2⟩, f3⟩ := M
    refine ⟨f0.1 133 (by decide), ?_, (f0.1 135 (by decide)).trans R.2.2.1, ?_, fun e => ?_⟩
    · show τ.1 134 = β.1 184 + ly_w1 π L k
      rw [f2, ← hw]
      show σ.1 134 + _ = _
      rw [R.2.1]
      rfl
    · rw [f0.2 38 (by simp)]
      exact R.2.2.2.1
    · have : (1 : Int) = 0 := e
      omega
  · intro g
    have hj : 0 ≤ β.1 185 - 2 ∧ β.1 185 - 2 + 1 < β.1 185 := by omega
    have hr6 := r6 _ hj.1 hj.2
    have hcall := W.2.2.1 _ hj.1 hj.2
    have hvK := W.2.1 _ hj.1 (by omega)
    have hv := am_vK_k hP hvK
    obtain ⟨K', hK'⟩ : ∃ K', K' = β.2 55 (β.1 185 - 2) := ⟨_, rfl⟩
    rw [← hK'] at hr6 hcall hvK hv
    obtain ⟨k', hk'⟩ : ∃ k', k' = am_xk π K' := ⟨_, rfl⟩
    rw [← hk'] at hr6 hcall hv
    have hin := rt_in X.1 hv.2.2.1.1 hv.2.2.1.2 hcall.1
    rw [show σ.1 132 - 1 = β.1 185 - 2 by omega, hr6]
    have hnx := am_next hP hg hvK (by rw [← hk']; omega) (by rw [← hk']; omega)
    have hnk := am_vK_k hP hnx.1
    rw [hnx.2.1, ← hk'] at hnk
    have hfi2 := hP.2.2.2.2.2.2 (K' / 24) (K' % 24) hv.1.1 hv.1.2 hv.2.1.1 hv.2.1.2
    have ek : π.2 14 (K' / 24) + K' % 24 = k' := by rw [hk']; rfl
    rw [ek] at hfi2
    have hsc2 := (hfi2.2.2.2.2.2.2.2.2.2.2.2.2.2.2.2.2.2.1 hcall.1).2
    clear hfi2
    refine ⟨⟨k', hv.2.2.1, hin⟩, ?_⟩
    intro τ s hs M
    have hh1 : hh π L k' (cl π k' ++ [(19, ly_a π L (ly_gi π k'))]) = -1 := by
      unfold hh
      rw [em_H_1]
      rfl
    obtain ⟨ρ, hρ⟩ : ∃ ρ : fb_S, ρ = fb_sg (fb_sg σ 132 (β.1 185 - 2)) 134 (σ.1 134 + ly_w1 π L k - em_W (ly_i π L k') (cl π k' ++ [(19, ly_a π L (ly_gi π k'))])) := ⟨_, rfl⟩
    have fρ : fr_a po_A po_G σ ρ := by rw [hρ]; exact fr_sg (fr_sg (fr_rf _ _ _) (by decide)) (by decide)
    have ρ134 : ρ.1 134 = σ.1 134 + ly_w1 π L k - em_W (ly_i π L k') (cl π k' ++ [(19, ly_a π L (ly_gi π k'))]) := by rw [hρ]; rfl
    have ρ132 : ρ.1 132 = β.1 185 - 2 := by rw [hρ]; rfl
    have ρ133 : ρ.1 133 = 0 := by rw [hρ]; exact C.2.2
    have ρ135 : ρ.1 135 = σ.1 135 := by rw [hρ]; rfl
    have ρ2 : ρ.2 = σ.2 := by rw [hρ]; rfl
    have C' : gc π L k' ρ := ⟨pk_fr X.1 fρ (by simp) (by simp), hv.2.2.1, ρ133⟩
    have tail := so_tail (E := E) (Q := Q) (S := 20) (a := px_m (β.2 56) (σ.1 138) (ly_p π f (π.2 18 k) 1)) (x := σ.1 138) (c := σ.1 139) (z := z2) C' hcall.1 hv.2.2.2.1 hnk.2.2.1.2 hv.1 hsc2 y0 y1 ?_
    · refine (tail (cl_2 hcall.1 hv.2.2.2.1) τ s ⟨⟨⟨fun j hj2 => ?_, ?_⟩, ⟨M.2.1.1, ?_⟩, M.2.2⟩, ?_, ?_⟩).2 hin.2
      · rw [M.1.1 j hj2, hρ]
        have hj3 : j ≠ 134 := fun e => hj2 (by rw [e]; decide)
        rw [fb_sg1 _ 134, if_neg hj3]
      · rw [ρ2]; exact M.1.2
      · rw [M.2.1.2, ρ134]
        show σ.1 134 + _ = _
        rw [← hw]
        show σ.1 134 + em_W (ly_i π L k) [(0, ly_p π f (π.2 18 k) 0), (1, 126), (0, ly_p π f (π.2 18 k) 1), (1, 127), (20, 0)] = _
        omega
      · rw [hh1]; exact hv_n
      · omega
    · intro τ' d' a' x' c' z' M' H' ed
      refine h τ' ⟨fr_tr fρ (po_up M'.1), ?_⟩
      unfold am_lv
      rw [if_neg (by omega), e185, show β.1 185 - 1 - 1 = β.1 185 - 2 by omega, show (b1 π L β k).2 55 = β.2 55 from rfl, ← hK', ← hk']
      obtain ⟨δ, hδ⟩ : ∃ δ, δ = am_wr π (am_lv0 (b1 π L β k) y) (K' / 24) (π.2 20 k') y := ⟨_, rfl⟩
      have δ1 : δ.1 = (am_lv0 (b1 π L β k) y).1 := by rw [hδ, am_wr_185]
      have δ185 : δ.1 185 = β.1 185 - 1 := by rw [δ1]; rfl
      have δ55 : δ.2 55 = β.2 55 := by
        rw [hδ, am_wr_55]
        unfold am_lv0
        rw [fb_sg2, fb_ne (by decide), fb_ne (by decide)]
        rfl
      have δ57 : δ.2 57 = β.2 57 := by
        rw [hδ, am_wr_57]
        unfold am_lv0
        rw [fb_sg2, fb_ne (by decide), fb_ne (by decide)]
        rfl
      have δ56 : δ.2 56 = d' := by rw [hδ, am_wr_56, ed]
      rw [← hδ]
      have eK : am_K (am_adv (fb_sg δ 184 (δ.1 184 + ly_w2 π k')) (K' + 1)) = K' + 1 := by
        show (fb_sm (fb_sg δ 184 (δ.1 184 + ly_w2 π k')) 55 (δ.1 185 - 1) (K' + 1)).2 55 (δ.1 185 - 1) = _
        rw [fb_at, if_pos rfl]
      refine rc_gen (γ := am_adv (fb_sg δ 184 (δ.1 184 + ly_w2 π k')) (K' + 1)) M' ?_ H' ?_ ρ133 ?_ ?_ ?_ ?_ ?_ ?_
      · rw [eK, hnx.2.1, ← hk']
      · show δ.1 183 = 0
        rw [δ1]; exact X.2.2.1
      · show δ.1 184 + ly_w2 π k' = _
        have e184 : δ.1 184 = β.1 184 + ly_w1 π L k := by rw [δ1]; rfl
        have := R.2.1
        omega
      · exact δ56
      · show ρ.1 135 = δ.1 186
        rw [ρ135, δ1]; exact R.2.2.1
      · show ∀ j, 0 ≤ j → j < 100 → j < δ.1 186 → ρ.2 38 j = δ.2 57 j
        rw [ρ2, δ57, δ1]
        exact R.2.2.2.1
      · show ρ.1 132 = δ.1 185 - 1
        omega
      · show ∀ j, 0 ≤ j → j + 1 < δ.1 185 → ρ.2 39 j = rt π L (am_xk π ((fb_sm (fb_sg δ 184 (δ.1 184 + ly_w2 π k')) 55 (δ.1 185 - 1) (K' + 1)).2 55 j))
        intro j j0 j1
        rw [fb_at, if_neg (by omega), ρ2, fb_sg2, δ55]
        exact r6 j j0 (by omega)
/-- one instruction, by the class -/
theorem po_one (C : pk π L σ) (W : am_W π β) (h0 : β.1 183 = 0) (R : Rc π L β σ) (ho : 0 ≤ β.1 186 ∧ β.1 186 < 2147480000) (h : ∀ τ, fr_a po_A po_G σ τ → Rc π L (am_st π L β) τ → Q 0 τ) : fb_V E fb_Po_performOne 0 [.inr 4, .inr 999, .inr 999] [] σ Q := by
  have X : cx π L β σ (am_K β) (am_xk π (am_K β)) (am_K β / 24) := ⟨C, W, h0, R, ho, rfl, rfl, rfl⟩
  have hop := X.at.2.2.2.2.1
  have h' : ∀ τ, fr_a po_A po_G σ τ ∧ Rc π L (am_do π L (b1 π L β (am_xk π (am_K β))) (am_K β) (am_K β / 24) (am_xk π (am_K β))) τ → Q 0 τ := fun τ q => h τ q.1 q.2
  clear h
  generalize am_K β = K at *
  generalize am_xk π K = k at *
  generalize K / 24 = f at *
  have b56 : (b1 π L β k).2 56 = β.2 56 := rfl
  unfold am_do at h'
  by_cases o10 : π.2 17 k = 10
  · simp only [if_pos o10] at h'
    exact so_goto X o10 h'
  simp only [if_neg o10] at h'
  by_cases o11 : π.2 17 k = 11
  · simp only [if_pos o11] at h'
    exact so_zero X o11 h'
  simp only [if_neg o11] at h'
  by_cases o12 : π.2 17 k = 12
  · simp only [if_pos o12] at h'
    exact so_below X o12 h'
  simp only [if_neg o12] at h'
  by_cases o8 : π.2 17 k = 8
  · simp only [if_pos o8] at h'
    rw [b56] at h'
    refine so_lod X o8 (fun g => ?_) (fun g => ?_)
    · rw [if_pos g] at h'; exact h'
    · rw [if_neg g] at h'; exact h'
  simp only [if_neg o8] at h'
  by_cases o9 : π.2 17 k = 9
  · simp only [if_pos o9] at h'
    rw [b56] at h'
    refine so_sto X o9 (fun g => ?_) (fun g => ?_)
    · rw [if_pos g] at h'; exact h'
    · rw [if_neg g] at h'; exact h'
  simp only [if_neg o9] at h'
  by_cases o13 : π.2 17 k = 13
  · simp only [if_pos o13] at h'
    exact so_call X o13 h'
  simp only [if_neg o13] at h'
  by_cases o14 : π.2 17 k = 14
  · simp only [if_pos o14] at h'
    exact so_ret X o14 h'
  simp only [if_neg o14] at h'
  by_cases o15 : π.2 17 k = 15
  · simp only [if_pos o15] at h'
    exact so_out X o15 h'
  simp only [if_neg o15] at h'
  by_cases o0 : π.2 17 k = 0
  · simp only [if_pos o0] at h'
    exact so_set X o0 h'
  simp only [if_neg o0] at h'
  by_cases o1 : π.2 17 k = 1
  · rw [o1] at h'
    exact so_mov X o1 h'
  by_cases o7 : π.2 17 k = 7
  · rw [o7] at h'
    exact so_dbl X o7 h'
  refine so_cmb X (by omega) (fun τ q => h' τ ?_)
  simp only [if_neg o7]
  rw [if_pos (show 2 ≤ π.2 17 k ∧ π.2 17 k ≤ 6 by omega)]
  exact q
end RT
