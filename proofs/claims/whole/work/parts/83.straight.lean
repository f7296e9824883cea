/-! the class's run: straight instructions -/
section ST
variable {E : fb_E} {π σ τ α β : fb_S} {L : Int → Int} {S k s n q a x c z K f v : Int} {d : Int → Int} {l m : em_I} {Q : Int → fb_S → Prop}
/-- the machine after the instruction's cost -/
noncomputable def b1 (π : fb_S) (L : Int → Int) (β : fb_S) (k : Int) : fb_S := fb_sg β 184 (β.1 184 + ly_w1 π L k)
theorem am_wr_57 {y : Int} : (am_wr π α f v y).2 57 = α.2 57 := by
  unfold am_wr
  split
  · rw [fb_ne (by decide), fb_ne (by decide)]
  · rw [fb_ne (by decide)]
/-- a value written, on to the next -/
theorem rc_wr (X : cx π L β σ K k f) (h10 : ¬ π.2 17 k = 10) (h14 : ¬ π.2 17 k = 14) (h13 : ¬ π.2 17 k = 13) {y : Int} (P : pt S π L k σ (ly_c π L k) τ s d a x c z) (ed : d = if iv_z π f v = 2 then up (up (β.2 56) (ly_p π f v 0) (y % 256)) (ly_p π f v 0 + 1) (y / 256 % 256) else up (β.2 56) (ly_p π f v 0) (y % 256)) : fr_a po_A po_G σ τ ∧ Rc π L (am_adv (am_wr π (b1 π L β k) f v y) (K + 1)) τ := by
  refine rc_fall X h10 h14 h13 P ?_ ?_ ?_ ?_ ?_ (bo_0 X ?_ ?_)
  · rw [am_wr_55]; rfl
  · rw [am_wr_185]; rfl
  · rw [am_wr_185]; exact X.2.2.1
  · rw [am_wr_185]; rfl
  · rw [am_wr_56, ed]; rfl
  · rw [am_wr_185]; rfl
  · rw [am_wr_57]; rfl
theorem lc_16 (X : cx π L β σ K k f) : ly_c π L k = it_in (iv_z π f) (ly_p π f) (iv_z π (π.2 18 k) 0) (ly_p π (π.2 18 k) 0 0) (π.2 17 k) (π.2 18 k) (π.2 19 k) (π.2 20 k) (ly_a π L (ly_gi π k)) (L k) (ly_b π L k) := by
  have h := X.at.2.2.1
  unfold ly_c ly_it
  rw [h]
theorem so_set (X : cx π L β σ K k f) (ho : π.2 17 k = 0) (h : ∀ τ, fr_a po_A po_G σ τ ∧ Rc π L (am_adv (am_wr π (b1 π L β k) f (π.2 18 k) (π.2 19 k)) (K + 1)) τ → Q 0 τ) : fb_V E fb_Po_performOne 0 [.inr 4, .inr 999, .inr 999] [] σ Q := by
  have hP := X.1.1
  have hg := X.1.2.1
  obtain ⟨hf, hk, -, -, hfi⟩ := X.at
  have hsc := hfi.2.2.2.2.1 ho
  clear hfi
  have C := X.gc
  have nx := (X.nx (by omega) (by omega)).1
  have pa := pl_sc hP hg hf.1 hf.2 hsc.1 (σ.1 138)
  have N : ∀ m, nl π k m := fun m => Or.inl nx
  apply po_enter X
  have fin := fun τ s a' x' c' z' d' (P : pt 0 π L k σ (ly_c π L k) τ s d' a' x' c' z') e => h τ (rc_wr X (by omega) (by omega) (by omega) (v := π.2 18 k) (y := π.2 19 k) P e)
  generalize σ.1 138 = x at *
  rw [lc_16 X, ho, show it_in (iv_z π f) (ly_p π f) (iv_z π (π.2 18 k) 0) (ly_p π (π.2 18 k) 0 0) 0 (π.2 18 k) (π.2 19 k) (π.2 20 k) (ly_a π L (ly_gi π k)) (L k) (ly_b π L k) = it_set (iv_z π f) (ly_p π f) (π.2 18 k) (π.2 19 k) from rfl]
  have q0 : qi x (256 + π.2 19 k % 256) := by unfold qi; omega
  have q1 : qi x (256 + π.2 19 k / 256 % 256) := by unfold qi; omega
  unfold it_set
  by_cases g : iv_z π f (π.2 18 k) = 2
  · rw [it_2_2 g]
    have p1 := pa.2.2.2 g
    apply g_lda C (N _) q0
    intro z1 _
    apply g_sta C (N _) pa.2.1 (by omega)
    apply g_lda C (N _) q1
    intro z2 _
    apply g_sta C (N _) pa.2.2.1 (by omega)
    refine g_end (fun τ s P => fin _ _ _ _ _ _ _ P ?_) hk.1
    rw [if_pos g, px_o_1 (by omega), px_o_1 (by omega), p1.1, px_m_2 (by omega) (by omega), px_m_2 (by omega) (by omega)]
    rw [show 256 + π.2 19 k % 256 - 256 = π.2 19 k % 256 by omega, show 256 + π.2 19 k / 256 % 256 - 256 = π.2 19 k / 256 % 256 by omega]
  · rw [it_2_1 g]
    apply g_lda C (N _) q0
    intro z1 _
    apply g_sta C (N _) pa.2.1 (by omega)
    refine g_end (fun τ s P => fin _ _ _ _ _ _ _ P ?_) hk.1
    rw [if_neg g, px_o_1 (by omega), px_m_2 (by omega) (by omega)]
    rw [show 256 + π.2 19 k % 256 - 256 = π.2 19 k % 256 by omega]
theorem so_mov (X : cx π L β σ K k f) (ho : π.2 17 k = 1) (h : ∀ τ, fr_a po_A po_G σ τ ∧ Rc π L (am_adv (am_wr π (b1 π L β k) f (π.2 18 k) (am_rd π (β.2 56) f (π.2 19 k))) (K + 1)) τ → Q 0 τ) : fb_V E fb_Po_performOne 0 [.inr 4, .inr 999, .inr 999] [] σ Q := by
  have hP := X.1.1
  have hg := X.1.2.1
  obtain ⟨hf, hk, -, -, hfi⟩ := X.at
  have hsc := hfi.2.2.2.2.2.1 ho
  clear hfi
  have C := X.gc
  have nx := (X.nx (by omega) (by omega)).1
  have hx := X.rl.2.2.2.1.2.1
  have hd := X.2.1.2.2.2.2
  have pa := pl_sc hP hg hf.1 hf.2 hsc.1 (σ.1 138)
  have pb := pl_sc hP hg hf.1 hf.2 hsc.2 (σ.1 138)
  have N : ∀ m, nl π k m := fun m => Or.inl nx
  have rd := rd_eq (d := β.2 56) hsc.2 pb.1 (fun g => (pb.2.2.2 g).2) (σ.1 138)
  have m0 := px_m_in hx.1 hd pb.2.1
  have m1 := px_m_in hx.1 hd pb.2.2.1
  have u1 := fun w => px_up1 (d := β.2 56) (w := w) (x := σ.1 138) hP hg hf.1 hf.2 (u := π.2 18 k) (by have : iv_z π f (π.2 18 k) = 1 ∨ iv_z π f (π.2 18 k) = 2 := hsc.1; omega) hsc.2
  apply po_enter X
  have fin := fun τ s a' x' c' z' d' (P : pt 0 π L k σ (ly_c π L k) τ s d' a' x' c' z') e => h τ (rc_wr X (by omega) (by omega) (by omega) (v := π.2 18 k) (y := am_rd π (β.2 56) f (π.2 19 k)) P e)
  generalize σ.1 138 = x at *
  rw [lc_16 X, ho, show it_in (iv_z π f) (ly_p π f) (iv_z π (π.2 18 k) 0) (ly_p π (π.2 18 k) 0 0) 1 (π.2 18 k) (π.2 19 k) (π.2 20 k) (ly_a π L (ly_gi π k)) (L k) (ly_b π L k) = it_move (iv_z π f) (ly_p π f) (π.2 18 k) (π.2 19 k) from rfl]
  unfold it_move
  by_cases g : iv_z π f (π.2 18 k) = 2
  · rw [it_2_2 g]
    have p1 := pa.2.2.2 g
    apply g_lda C (N _) pb.2.1
    intro z1 _
    apply g_sta C (N _) pa.2.1 (by omega)
    apply g_lda C (N _) pb.2.2.1
    intro z2 _
    apply g_sta C (N _) pa.2.2.1 (by omega)
    refine g_end (fun τ s P => fin _ _ _ _ _ _ _ P ?_) hk.1
    rw [if_pos g, px_o_1 (show ly_p π f (π.2 18 k) 0 < 256 by omega), px_o_1 (by omega), p1.1, u1, rd]
    rw [show (px_m (β.2 56) x (ly_p π f (π.2 19 k) 0) + 256 * px_m (β.2 56) x (ly_p π f (π.2 19 k) 1)) % 256 = px_m (β.2 56) x (ly_p π f (π.2 19 k) 0) by omega, show (px_m (β.2 56) x (ly_p π f (π.2 19 k) 0) + 256 * px_m (β.2 56) x (ly_p π f (π.2 19 k) 1)) / 256 % 256 = px_m (β.2 56) x (ly_p π f (π.2 19 k) 1) by omega]
  · rw [it_2_1 g]
    apply g_lda C (N _) pb.2.1
    intro z1 _
    apply g_sta C (N _) pa.2.1 (by omega)
    refine g_end (fun τ s P => fin _ _ _ _ _ _ _ P ?_) hk.1
    rw [if_neg g, px_o_1 (show ly_p π f (π.2 18 k) 0 < 256 by omega), rd]
    rw [show (px_m (β.2 56) x (ly_p π f (π.2 19 k) 0) + 256 * px_m (β.2 56) x (ly_p π f (π.2 19 k) 1)) % 256 = px_m (β.2 56) x (ly_p π f (π.2 19 k) 0) by omega]
end ST
