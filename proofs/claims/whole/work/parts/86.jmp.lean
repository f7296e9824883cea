/-! the class's run: GOTO, ZERO, BELOW -/
section JM
variable {E : fb_E} {π σ τ α β : fb_S} {L : Int → Int} {S k s n q a x c z K f v : Int} {d : Int → Int} {l m : em_I} {Q : Int → fb_S → Prop}
theorem rs_gi (X : cx π L β σ K k f) (ho : π.2 17 k = 10 ∨ π.2 17 k = 11 ∨ π.2 17 k = 12) : (0 ≤ ly_gi π k ∧ ly_gi π k < π.1 42) ∧ ly_i π L (ly_gi π k) = -1 ∧ am_xk π (kx π (ly_gi π k)) = ly_gi π k := by
  have hP := X.1.1
  have hg := X.1.2.1
  obtain ⟨hf, hk, e16, -, -⟩ := X.at
  have hgi := ly_gi_in hP hg hk.1 hk.2 (by omega)
  have ht := hg.2.1 k hk.1 hk.2 ho
  have eg : ly_gi π k = π.2 14 f + iv_tg π k := by
    unfold ly_gi
    rw [if_neg (by omega), e16]
  rw [e16] at ht
  have hfk := iv_fk hP hf.1 hf.2 ht.1 ht.2
  refine ⟨hgi, ly_i_y (Or.inr ?_), (am_kx_v hP hgi.1 hgi.2).2.1⟩
  rw [eg, hfk.2.1]
  exact ⟨k, hk.1, hk.2, ho, e16, by omega⟩
theorem so_goto (X : cx π L β σ K k f) (ho : π.2 17 k = 10) (h : ∀ τ, fr_a po_A po_G σ τ ∧ Rc π L (am_adv (b1 π L β k) (kx π (ly_gi π k))) τ → Q 0 τ) : fb_V E fb_Po_performOne 0 [.inr 4, .inr 999, .inr 999] [] σ Q := by
  have C := X.gc
  have hg := rs_gi X (Or.inl ho)
  have hw : em_W (ly_i π L k) (ly_c π L k) = ly_w1 π L k := w1_eq (by omega)
  have el : ly_c π L k = [(18, ly_a π L (ly_gi π k))] := by
    rw [lc_16 X, ho]
    rfl
  apply po_enter X
  rw [el] at hw ⊢
  apply g_jmp C hg.1
  intro τ M
  refine h τ (rc_go X M hg.2.2 ?_ rfl rfl X.2.2.1 ?_ rfl (bo_0 X rfl rfl))
  · rw [hg.2.1]; exact hv_n
  · show β.1 184 + ly_w1 π L k = _
    rw [← hw]
    rfl
theorem te_pos (X : cx π L β σ K k f) {te : em_I} (ht : te = ly_te π k) {n : Int} (el : ly_c π L k = te ++ it_br n (ly_b π L k) (ly_a π L (ly_gi π k)) (L k)) (h13 : ¬ π.2 17 k = 13) : ly_b π L k = pp π L k te ∧ em_W (ly_i π L k) te = ly_w1 π L k ∧ hh π L k te = hh π L k (ly_c π L k) := by
  have raw : ∀ y ∈ it_br n (ly_b π L k) (ly_a π L (ly_gi π k)) (L k), y.1 = 30 := by
    unfold it_br
    intro y hy
    split at hy
    · simp at hy
      rcases hy with e | e <;> rw [e]
    · simp at hy
      rcases hy with e | e | e | e | e <;> rw [e]
  refine ⟨by rw [ht]; rfl, ?_, ?_⟩
  · rw [← w1_eq h13, el, em_W_app, (em_raw _ _ raw).2.2]
    omega
  · unfold hh
    rw [el, em_H_app, (em_raw _ _ raw).2.1]
/-- after the test, the branch: t says whether it is taken -/
theorem so_dec (X : cx π L β σ K k f) (ho : π.2 17 k = 11 ∨ π.2 17 k = 12) {te : em_I} (ht : te = ly_te π k) (hn : n = 14 ∨ n = 16) (el : ly_c π L k = te ++ it_br n (ly_b π L k) (ly_a π L (ly_gi π k)) (L k)) (t : Prop) (b : Bool) (hb : b = true ↔ t) (htc : t ↔ ((n = 14 ∧ z = 1) ∨ (n = 16 ∧ c = 0))) (ed : d = β.2 56) (h : ∀ τ, fr_a po_A po_G σ τ ∧ Rc π L (am_dec π L (b1 π L β k) K k b) τ → Q 0 τ) : Gt S E π L k σ Q te (it_br n (ly_b π L k) (ly_a π L (ly_gi π k)) (L k)) d a x c z := by
  have hg := rs_gi X (Or.inr ho)
  have hk := X.at.2.1
  have nx := X.nx (by omega) (by omega)
  have tp := te_pos X ht el (by omega)
  apply g_br X.gc nx.1 hn ho hg.1 tp.1 t htc
  · intro nt τ M H
    have hbf : ¬ b = true := fun q => nt (hb.mp q)
    unfold am_dec at h
    rw [if_neg (fun q => hbf q.2), if_neg hbf] at h
    refine h τ (rc_go X M nx.2 (hv_next hk.1 (by rw [← tp.2.2]; exact H)) rfl rfl X.2.2.1 ?_ ed.symm (bo_0 X rfl rfl))
    show β.1 184 + ly_w1 π L k + 1 = _
    rw [tp.2.1]
    omega
  · intro yt τ M
    have hbt : b = true := hb.mpr yt
    unfold am_dec at h
    rw [if_pos hbt] at h
    refine h τ (rc_go X M hg.2.2 ?_ rfl rfl X.2.2.1 ?_ ed.symm (bo_0 X rfl rfl))
    · rw [hg.2.1]; exact hv_n
    · show β.1 184 + ly_w1 π L k + (if ¬ L k = 0 ∧ b = true then 2 else 1) = _
      rw [tp.2.1]
      by_cases gl : L k = 0
      · rw [if_neg (fun q => q.1 gl), if_neg (fun q => q gl)]
        omega
      · rw [if_pos ⟨gl, hbt⟩, if_pos gl]
        omega
theorem so_zero (X : cx π L β σ K k f) (ho : π.2 17 k = 11) (h : ∀ τ, fr_a po_A po_G σ τ ∧ Rc π L (am_dec π L (b1 π L β k) K k (decide (am_rd π (β.2 56) f (π.2 18 k) = 0))) τ → Q 0 τ) : fb_V E fb_Po_performOne 0 [.inr 4, .inr 999, .inr 999] [] σ Q := by
  have hP := X.1.1
  have hg := X.1.2.1
  obtain ⟨hf, hk, e16, -, hfi⟩ := X.at
  have hsc := hfi.2.2.2.2.2.2.2.2.2.2.1 ho
  clear hfi
  have C := X.gc
  have nx := (X.nx (by omega) (by omega)).1
  have hx := X.rl.2.2.2.1.2.1
  have hc := X.rl.2.2.2.1.2.2.1
  have hd := X.2.1.2.2.2.2
  have pa := pl_sc hP hg hf.1 hf.2 hsc (σ.1 138)
  have N : ∀ m, nl π k m := fun m => Or.inl nx
  have ra := rd_eq (d := β.2 56) hsc pa.1 (fun g => (pa.2.2.2 g).2) (σ.1 138)
  have a0 := px_m_in hx.1 hd pa.2.1
  have a1 := px_m_in hx.1 hd pa.2.2.1
  have el : ly_c π L k = it_zero (iv_z π f) (ly_p π f) (π.2 18 k) ++ it_br 14 (ly_b π L k) (ly_a π L (ly_gi π k)) (L k) := by
    rw [lc_16 X, ho]
    rfl
  have et : it_zero (iv_z π f) (ly_p π f) (π.2 18 k) = ly_te π k := by
    unfold ly_te
    rw [e16, ho]
    rfl
  apply po_enter X
  rw [el]
  generalize σ.1 138 = x at *
  generalize σ.1 139 = c at *
  by_cases g : iv_z π f (π.2 18 k) = 2
  · have ez : it_zero (iv_z π f) (ly_p π f) (π.2 18 k) = [(0, ly_p π f (π.2 18 k) 0), (5, ly_p π f (π.2 18 k) 1)] := if_pos g
    rw [ez] at el et ⊢
    apply g_lda C (N _) pa.2.1
    intro z1 _
    apply g_bin C (N _) (by omega) pa.2.2.1
    refine so_dec X (Or.inl ho) et (Or.inl rfl) el (am_rd π (β.2 56) f (π.2 18 k) = 0) _ decide_eq_true_iff ?_ rfl h
    rw [ra]
    generalize px_m (β.2 56) x (ly_p π f (π.2 18 k) 0) = u at *
    generalize px_m (β.2 56) x (ly_p π f (π.2 18 k) 1) = w at *
    have hor : (u.toNat ||| w.toNat = 0) ↔ (u.toNat = 0 ∧ w.toNat = 0) := Nat.or_eq_zero_iff
    show _ ↔ ((14 : Int) = 14 ∧ px_zf (((u.toNat ||| w.toNat : Nat) : Int)) = 1) ∨ ((14 : Int) = 16 ∧ _)
    unfold px_zf
    by_cases g0 : u.toNat ||| w.toNat = 0
    · rw [if_pos (by omega)]
      have := hor.mp g0
      omega
    · rw [if_neg (by omega)]
      have : ¬ (u.toNat = 0 ∧ w.toNat = 0) := fun q => g0 (hor.mpr q)
      omega
  · have ez : it_zero (iv_z π f) (ly_p π f) (π.2 18 k) = [(32, 0), (0, ly_p π f (π.2 18 k) 0)] := if_neg g
    have p1 := (lp_1 hsc).2 g
    rw [ez] at el et ⊢
    apply g_fgt C
    apply g_lda C (N _) pa.2.1
    intro z1 hz1
    have hz := hz1 (by
      unfold hh
      rw [em_H_1]
      show ¬ ly_p π f (π.2 18 k) 0 = -1
      omega)
    refine so_dec X (Or.inl ho) et (Or.inl rfl) el (am_rd π (β.2 56) f (π.2 18 k) = 0) _ decide_eq_true_iff ?_ rfl h
    rw [ra, hz, p1, px_m_2 (show (256 : Int) ≤ 256 by omega) (by omega)]
    generalize px_m (β.2 56) x (ly_p π f (π.2 18 k) 0) = u at *
    unfold px_zf
    by_cases g0 : u = 0
    · rw [if_pos g0]; omega
    · rw [if_neg g0]; omega
theorem so_below (X : cx π L β σ K k f) (ho : π.2 17 k = 12) (h : ∀ τ, fr_a po_A po_G σ τ ∧ Rc π L (am_dec π L (b1 π L β k) K k (decide (am_rd π (β.2 56) f (π.2 18 k) < am_rd π (β.2 56) f (π.2 19 k)))) τ → Q 0 τ) : fb_V E fb_Po_performOne 0 [.inr 4, .inr 999, .inr 999] [] σ Q := by
  have hP := X.1.1
  have hg := X.1.2.1
  obtain ⟨hf, hk, e16, -, hfi⟩ := X.at
  have hsc := hfi.2.2.2.2.2.2.2.2.2.2.2.1 ho
  clear hfi
  have C := X.gc
  have nx := (X.nx (by omega) (by omega)).1
  have hx := X.rl.2.2.2.1.2.1
  have hd := X.2.1.2.2.2.2
  have pa := pl_sc hP hg hf.1 hf.2 hsc.1 (σ.1 138)
  have pb := pl_sc hP hg hf.1 hf.2 hsc.2 (σ.1 138)
  have N : ∀ m, nl π k m := fun m => Or.inl nx
  have rda := rd_eq (d := β.2 56) hsc.1 pa.1 (fun g => (pa.2.2.2 g).2) (σ.1 138)
  have rdb := rd_eq (d := β.2 56) hsc.2 pb.1 (fun g => (pb.2.2.2 g).2) (σ.1 138)
  have a0 := px_m_in hx.1 hd pa.2.1
  have a1 := px_m_in hx.1 hd pa.2.2.1
  have b0 := px_m_in hx.1 hd pb.2.1
  have b1 := px_m_in hx.1 hd pb.2.2.1
  have el : ly_c π L k = it_below (iv_z π f) (ly_p π f) (π.2 18 k) (π.2 19 k) ++ it_br 16 (ly_b π L k) (ly_a π L (ly_gi π k)) (L k) := by
    rw [lc_16 X, ho]
    rfl
  have et : it_below (iv_z π f) (ly_p π f) (π.2 18 k) (π.2 19 k) = ly_te π k := by
    unfold ly_te
    rw [e16, ho]
    rfl
  apply po_enter X
  rw [el]
  generalize σ.1 138 = x at *
  by_cases g : iv_z π f (π.2 18 k) = 2 ∨ iv_z π f (π.2 19 k) = 2
  · have ez : it_below (iv_z π f) (ly_p π f) (π.2 18 k) (π.2 19 k) = [(0, ly_p π f (π.2 18 k) 0), (10, ly_p π f (π.2 19 k) 0), (0, ly_p π f (π.2 18 k) 1), (3, ly_p π f (π.2 19 k) 1)] := if_pos g
    rw [ez] at el et ⊢
    apply g_lda C (N _) pa.2.1
    intro z1 _
    apply g_cmp C (N _) (Or.inl rfl) pb.2.1 (u := px_m (β.2 56) x (ly_p π f (π.2 18 k) 0)) rfl
    apply g_lda C (N _) pa.2.2.1
    intro z2 _
    apply g_bin C (N _) (by omega) pb.2.2.1
    refine so_dec X (Or.inr ho) et (Or.inr rfl) el (am_rd π (β.2 56) f (π.2 18 k) < am_rd π (β.2 56) f (π.2 19 k)) _ decide_eq_true_iff ?_ rfl h
    rw [rda, rdb]
    generalize px_m (β.2 56) x (ly_p π f (π.2 18 k) 0) = u0 at *
    generalize px_m (β.2 56) x (ly_p π f (π.2 18 k) 1) = u1 at *
    generalize px_m (β.2 56) x (ly_p π f (π.2 19 k) 0) = w0 at *
    generalize px_m (β.2 56) x (ly_p π f (π.2 19 k) 1) = w1 at *
    show _ ↔ ((16 : Int) = 14 ∧ _) ∨ ((16 : Int) = 16 ∧ (u1 + (255 - w1) + (if u0 < w0 then 0 else 1)) / 256 = 0)
    by_cases g0 : u0 < w0
    · rw [if_pos g0]; omega
    · rw [if_neg g0]; omega
  · have ez : it_below (iv_z π f) (ly_p π f) (π.2 18 k) (π.2 19 k) = [(0, ly_p π f (π.2 18 k) 0), (10, ly_p π f (π.2 19 k) 0)] := if_neg g
    have p1 := (lp_1 hsc.1).2 (fun q => g (Or.inl q))
    have p2 := (lp_1 hsc.2).2 (fun q => g (Or.inr q))
    rw [ez] at el et ⊢
    apply g_lda C (N _) pa.2.1
    intro z1 _
    apply g_cmp C (N _) (Or.inl rfl) pb.2.1 (u := px_m (β.2 56) x (ly_p π f (π.2 18 k) 0)) rfl
    refine so_dec X (Or.inr ho) et (Or.inr rfl) el (am_rd π (β.2 56) f (π.2 18 k) < am_rd π (β.2 56) f (π.2 19 k)) _ decide_eq_true_iff ?_ rfl h
    rw [rda, rdb, p1, p2, px_m_2 (show (256 : Int) ≤ 256 by omega) (by omega)]
    generalize px_m (β.2 56) x (ly_p π f (π.2 18 k) 0) = u0 at *
    generalize px_m (β.2 56) x (ly_p π f (π.2 19 k) 0) = w0 at *
    by_cases g0 : u0 < w0
    · rw [if_pos g0]; omega
    · rw [if_neg g0]; omega
end JM
