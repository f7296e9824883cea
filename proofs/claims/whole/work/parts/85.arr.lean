/-! the class's run: arrays, output -/
section AR
variable {E : fb_E} {π σ τ α β : fb_S} {L : Int → Int} {S k s n q a x c z K f v : Int} {d : Int → Int} {l m : em_I} {Q : Int → fb_S → Prop}
theorem rc_flt (X : cx π L β σ K k f) (fr : fr_a po_A po_G σ τ) (e : τ.1 132 = σ.1 132 ∧ τ.1 135 = σ.1 135 ∧ τ.2 38 = σ.2 38) (e133 : τ.1 133 = 2) (e134 : τ.1 134 = σ.1 134 + 4) : fr_a po_A po_G σ τ ∧ Rc π L (am_flt π L (b1 π L β k) k) τ := by
  obtain ⟨x1, x2, x3, ⟨r1, r2, r3, r4, r5⟩, x5, x6, x7, x8⟩ := X
  refine ⟨fr, e133, ?_, e.2.1.trans r3, ?_, fun h => ?_⟩
  · show τ.1 134 = β.1 184 + ly_w1 π L k + (4 - ly_w1 π L k)
    omega
  · rw [e.2.2]; exact r4
  · have : (2 : Int) = 0 := h
    omega
theorem rc_idx (X : cx π L β σ K k f) {t b : Int} (hb : iv_z π f b = 1) (ht : 3 ≤ iv_z π f t) (N : ∃ x ∈ m, ¬ x.1 = 0 ∧ x.1 ≤ 31) (h1 : β.2 56 (ly_p π f b 0) < iv_z π f t → ∀ z', Gt 0 E π L k σ Q ([(9, ly_p π f b 0), (11, 256 + iv_z π f t), (31, 134), (30, 1), (30, 176)]) m (β.2 56) a (β.2 56 (ly_p π f b 0)) 0 z') (h2 : ¬ β.2 56 (ly_p π f b 0) < iv_z π f t → ∀ τ, fr_a po_A po_G σ τ ∧ Rc π L (am_flt π L (b1 π L β k) k) τ → Q 0 τ) (nx : k + 1 < π.1 42) : Gt 0 E π L k σ Q [] (it_idx (iv_z π f) (ly_p π f) t b ++ m) (β.2 56) a x c z := by
  have hP := X.1.1
  have hg := X.1.2.1
  have hf := X.at.1
  have C := X.gc
  have hd := X.2.1.2.2.2.2
  have pb := ly_p0 hP hg hf.1 hf.2 (show iv_z π f b ≠ 0 by omega)
  have pt' := ly_p0 hP hg hf.1 hf.2 (show iv_z π f t ≠ 0 by omega)
  have N' : ∀ m, nl π k m := fun m => Or.inl nx
  rw [show it_idx (iv_z π f) (ly_p π f) t b ++ m = (9, ly_p π f b 0) :: (11, 256 + iv_z π f t) :: (31, 134) :: (30, 1) :: (30, 176) :: m from rfl]
  apply g_ldx C (N' _) (by omega)
  intro z1
  apply g_cmp C (N' _) (Or.inr rfl) (by unfold qi; omega) (u := β.2 56 (ly_p π f b 0)) rfl
  rw [px_m_2 (by omega) (by omega), show 256 + iv_z π f t - 256 = iv_z π f t by omega]
  apply g_guard C N
  · intro h0
    by_cases g : β.2 56 (ly_p π f b 0) < iv_z π f t
    · rw [if_pos g]
      exact h1 g _
    · rw [if_neg g] at h0
      omega
  · intro h0 τ fr e e133 e134
    by_cases g : β.2 56 (ly_p π f b 0) < iv_z π f t
    · rw [if_pos g] at h0
      omega
    · refine h2 g τ (rc_flt X fr e e133 ?_)
      rw [e134, em_w_y (by omega) (by omega), em_w_y (by omega) (by omega)]
      show σ.1 134 + (0 + 1 + 1) + 2 = _
      omega
theorem so_lod (X : cx π L β σ K k f) (ho : π.2 17 k = 8) (h1 : am_rd π (β.2 56) f (π.2 20 k) < iv_z π f (π.2 19 k) → ∀ τ, fr_a po_A po_G σ τ ∧ Rc π L (am_adv (am_wr π (b1 π L β k) f (π.2 18 k) (β.2 56 (ly_p π f (π.2 19 k) 0 + am_rd π (β.2 56) f (π.2 20 k)))) (K + 1)) τ → Q 0 τ) (h2 : ¬ am_rd π (β.2 56) f (π.2 20 k) < iv_z π f (π.2 19 k) → ∀ τ, fr_a po_A po_G σ τ ∧ Rc π L (am_flt π L (b1 π L β k) k) τ → Q 0 τ) : fb_V E fb_Po_performOne 0 [.inr 4, .inr 999, .inr 999] [] σ Q := by
  have hP := X.1.1
  have hg := X.1.2.1
  obtain ⟨hf, hk, -, -, hfi⟩ := X.at
  have hsc := hfi.2.2.2.2.2.2.2.2.1 ho
  clear hfi
  have C := X.gc
  have nx := (X.nx (by omega) (by omega)).1
  have hd := X.2.1.2.2.2.2
  have pt' := ly_p0 hP hg hf.1 hf.2 (show iv_z π f (π.2 19 k) ≠ 0 by omega)
  have pc := ly_p0 hP hg hf.1 hf.2 (show iv_z π f (π.2 20 k) ≠ 0 by omega)
  have N : ∀ m, nl π k m := fun m => Or.inl nx
  have er : am_rd π (β.2 56) f (π.2 20 k) = β.2 56 (ly_p π f (π.2 20 k) 0) := by
    unfold am_rd
    rw [if_neg (by omega)]
  rw [er] at h1 h2
  have dx := hd (ly_p π f (π.2 20 k) 0) (by omega) (by omega)
  apply po_enter X
  rw [lc_16 X, ho, show it_in (iv_z π f) (ly_p π f) (iv_z π (π.2 18 k) 0) (ly_p π (π.2 18 k) 0 0) 8 (π.2 18 k) (π.2 19 k) (π.2 20 k) (ly_a π L (ly_gi π k)) (L k) (ly_b π L k) = it_idx (iv_z π f) (ly_p π f) (π.2 19 k) (π.2 20 k) ++ it_load (iv_z π f) (ly_p π f) (π.2 18 k) (π.2 19 k) from rfl]
  refine rc_idx X hsc.2.2 hsc.2.1 ?_ (fun gx z1 => ?_) h2 nx
  · unfold it_load
    exact ex_2 ⟨(1, ly_p π f (π.2 18 k) 0), by simp, show ¬ (1 : Int) = 0 ∧ (1 : Int) ≤ 31 by decide⟩
  · have pa := pl_sc hP hg hf.1 hf.2 hsc.1 (β.2 56 (ly_p π f (π.2 20 k) 0))
    have fin := fun τ s a' x' c' z' d' (P : pt 0 π L k σ (ly_c π L k) τ s d' a' x' c' z') e => h1 gx τ (rc_wr X (by omega) (by omega) (by omega) (v := π.2 18 k) (y := β.2 56 (ly_p π f (π.2 19 k) 0 + β.2 56 (ly_p π f (π.2 20 k) 0))) P e)
    have dy := hd (ly_p π f (π.2 19 k) 0 + β.2 56 (ly_p π f (π.2 20 k) 0)) (by omega) (by omega)
    have em : px_m (β.2 56) (β.2 56 (ly_p π f (π.2 20 k) 0)) (512 + ly_p π f (π.2 19 k) 0) = β.2 56 (ly_p π f (π.2 19 k) 0 + β.2 56 (ly_p π f (π.2 20 k) 0)) := by
      rw [px_m_3 (by omega), show 512 + ly_p π f (π.2 19 k) 0 - 512 + β.2 56 (ly_p π f (π.2 20 k) 0) = ly_p π f (π.2 19 k) 0 + β.2 56 (ly_p π f (π.2 20 k) 0) by omega]
    have qx : qi (β.2 56 (ly_p π f (π.2 20 k) 0)) (512 + ly_p π f (π.2 19 k) 0) := by unfold qi; omega
    have qc : qi (β.2 56 (ly_p π f (π.2 20 k) 0)) 256 := by unfold qi; omega
    unfold it_load
    by_cases g : iv_z π f (π.2 18 k) = 2
    · rw [it_2_2 g]
      have p1 := pa.2.2.2 g
      apply g_lda C (N _) qx
      intro z2 _
      apply g_sta C (N _) pa.2.1 (by omega)
      apply g_lda C (N _) qc
      intro z3 _
      apply g_sta C (N _) pa.2.2.1 (by omega)
      refine g_end (fun τ s P => fin _ _ _ _ _ _ _ P ?_) hk.1
      rw [if_pos g, px_o_1 (show ly_p π f (π.2 18 k) 0 < 256 by omega), px_o_1 (show ly_p π f (π.2 18 k) 1 < 256 by omega), p1.1, em, px_m_2 (show (256 : Int) ≤ 256 by omega) (by omega)]
      generalize β.2 56 (ly_p π f (π.2 19 k) 0 + β.2 56 (ly_p π f (π.2 20 k) 0)) = y at *
      rw [show y % 256 = y by omega, show y / 256 % 256 = 256 - 256 by omega]
    · rw [it_2_1 g]
      apply g_lda C (N _) qx
      intro z2 _
      apply g_sta C (N _) pa.2.1 (by omega)
      refine g_end (fun τ s P => fin _ _ _ _ _ _ _ P ?_) hk.1
      rw [if_neg g, px_o_1 (show ly_p π f (π.2 18 k) 0 < 256 by omega), em]
      generalize β.2 56 (ly_p π f (π.2 19 k) 0 + β.2 56 (ly_p π f (π.2 20 k) 0)) = y at *
      rw [show y % 256 = y by omega]
theorem so_sto (X : cx π L β σ K k f) (ho : π.2 17 k = 9) (h1 : am_rd π (β.2 56) f (π.2 19 k) < iv_z π f (π.2 18 k) → ∀ τ, fr_a po_A po_G σ τ ∧ Rc π L (am_adv (fb_sm (b1 π L β k) 56 (ly_p π f (π.2 18 k) 0 + am_rd π (β.2 56) f (π.2 19 k)) (am_rd π (β.2 56) f (π.2 20 k) % 256)) (K + 1)) τ → Q 0 τ) (h2 : ¬ am_rd π (β.2 56) f (π.2 19 k) < iv_z π f (π.2 18 k) → ∀ τ, fr_a po_A po_G σ τ ∧ Rc π L (am_flt π L (b1 π L β k) k) τ → Q 0 τ) : fb_V E fb_Po_performOne 0 [.inr 4, .inr 999, .inr 999] [] σ Q := by
  have hP := X.1.1
  have hg := X.1.2.1
  obtain ⟨hf, hk, -, -, hfi⟩ := X.at
  have hsc := hfi.2.2.2.2.2.2.2.2.2.1 ho
  clear hfi
  have C := X.gc
  have nx := (X.nx (by omega) (by omega)).1
  have hd := X.2.1.2.2.2.2
  have pt' := ly_p0 hP hg hf.1 hf.2 (show iv_z π f (π.2 18 k) ≠ 0 by omega)
  have pb := ly_p0 hP hg hf.1 hf.2 (show iv_z π f (π.2 19 k) ≠ 0 by omega)
  have N : ∀ m, nl π k m := fun m => Or.inl nx
  have er : am_rd π (β.2 56) f (π.2 19 k) = β.2 56 (ly_p π f (π.2 19 k) 0) := by
    unfold am_rd
    rw [if_neg (by omega)]
  rw [er] at h1 h2
  have dx := hd (ly_p π f (π.2 19 k) 0) (by omega) (by omega)
  have pc := pl_sc hP hg hf.1 hf.2 hsc.2.2 (β.2 56 (ly_p π f (π.2 19 k) 0))
  have rd := rd_eq (d := β.2 56) hsc.2.2 pc.1 (fun g => (pc.2.2.2 g).2) (β.2 56 (ly_p π f (π.2 19 k) 0))
  have m0 := px_m_in dx.1 hd pc.2.1
  have m1 := px_m_in dx.1 hd pc.2.2.1
  apply po_enter X
  rw [lc_16 X, ho, show it_in (iv_z π f) (ly_p π f) (iv_z π (π.2 18 k) 0) (ly_p π (π.2 18 k) 0 0) 9 (π.2 18 k) (π.2 19 k) (π.2 20 k) (ly_a π L (ly_gi π k)) (L k) (ly_b π L k) = it_idx (iv_z π f) (ly_p π f) (π.2 18 k) (π.2 19 k) ++ it_store (ly_p π f) (π.2 18 k) (π.2 20 k) from rfl]
  refine rc_idx X hsc.2.1 hsc.1 ?_ (fun gx z1 => ?_) h2 nx
  · exact ⟨(1, 512 + ly_p π f (π.2 18 k) 0), by simp [it_store], show ¬ (1 : Int) = 0 ∧ (1 : Int) ≤ 31 by decide⟩
  · have qx : qi (β.2 56 (ly_p π f (π.2 19 k) 0)) (512 + ly_p π f (π.2 18 k) 0) := by unfold qi; omega
    unfold it_store
    apply g_lda C (N _) pc.2.1
    intro z2 _
    apply g_sta C (N _) qx (by omega)
    refine g_end (fun τ s P => h1 gx τ (rc_fall X (by omega) (by omega) (by omega) P ?_ rfl X.2.2.1 rfl ?_ (bo_0 X rfl ?_))) hk.1
    · exact fb_ne (by decide)
    · rw [up_sm, px_o_3 (by omega), rd]
      rw [show 512 + ly_p π f (π.2 18 k) 0 - 512 + β.2 56 (ly_p π f (π.2 19 k) 0) = ly_p π f (π.2 18 k) 0 + β.2 56 (ly_p π f (π.2 19 k) 0) by omega]
      generalize px_m (β.2 56) (β.2 56 (ly_p π f (π.2 19 k) 0)) (ly_p π f (π.2 20 k) 0) = u at *
      generalize px_m (β.2 56) (β.2 56 (ly_p π f (π.2 19 k) 0)) (ly_p π f (π.2 20 k) 1) = w at *
      rw [show (u + 256 * w) % 256 = u by omega]
      rfl
    · exact fb_ne (by decide)
theorem bo_snd {σ' β' : fb_S} (B : bo σ σ' β') (h0 : 0 ≤ σ'.1 135) (b : Int) : bo σ (po_snd σ' b) (am_snd β' b) := by
  obtain ⟨b1, b2, b3, b4, b5, b6, b7⟩ := B
  have fs := po_snd_fr σ' b
  have e186 := mo_snd_185 (σ := β') b
  have e135 : (po_snd σ' b).1 135 = σ'.1 135 + 1 := by
    unfold po_snd
    split <;> rfl
  refine ⟨fr_tr b1 (fr_up fs (by simp) (by simp)), (fs.1 132 (by decide)).trans b2, (fs.2 39 (by simp)).trans b3, (fs.1 134 (by decide)).trans b4, (fs.1 133 (by decide)).trans b5, ?_, ?_⟩
  · rw [e135, e186.2.1, b6]
  · rw [e186.2.1]
    intro j j0 j1 j2
    unfold po_snd am_snd
    rw [b6]
    by_cases g : 100 ≤ β'.1 186
    · rw [if_pos g, if_pos g, fb_sg2, fb_sg2]
      exact b7 j j0 j1 (by omega)
    · rw [if_neg g, if_neg g, fb_sg2, fb_sg2, fb_at, fb_at]
      by_cases e : j = β'.1 186
      · rw [if_pos e, if_pos e]
      · rw [if_neg e, if_neg e]; exact b7 j j0 j1 (by omega)
theorem gc_snd (C : gc π L k σ) (b : Int) : gc π L k (po_snd σ b) := by
  have fs := po_snd_fr σ b
  exact ⟨pk_fr C.1 fs (by simp) (by simp), C.2.1, (fs.1 133 (by decide)).trans C.2.2⟩
theorem po_snd_135 (b : Int) : (po_snd σ b).1 135 = σ.1 135 + 1 := by
  unfold po_snd
  split <;> rfl
theorem am_snd_184 {b : Int} : (am_snd α b).1 184 = α.1 184 := by
  unfold am_snd
  split <;> rfl
theorem so_out (X : cx π L β σ K k f) (ho : π.2 17 k = 15) (h : ∀ τ, fr_a po_A po_G σ τ ∧ Rc π L (am_adv (if iv_z π f (π.2 18 k) = 2 then am_snd (am_snd (b1 π L β k) (β.2 56 (ly_p π f (π.2 18 k) 0))) (β.2 56 (ly_p π f (π.2 18 k) 0 + 1)) else am_snd (b1 π L β k) (β.2 56 (ly_p π f (π.2 18 k) 0))) (K + 1)) τ → Q 0 τ) : fb_V E fb_Po_performOne 0 [.inr 4, .inr 999, .inr 999] [] σ Q := by
  have hP := X.1.1
  have hg := X.1.2.1
  obtain ⟨hf, hk, -, -, hfi⟩ := X.at
  have hsc := hfi.2.2.2.2.2.2.2.2.2.2.2.2.2.2 ho
  clear hfi
  have C := X.gc
  have nx := (X.nx (by omega) (by omega)).1
  have hd := X.2.1.2.2.2.2
  have h135 : σ.1 135 = β.1 186 := X.2.2.2.1.2.2.1
  have h186 := X.2.2.2.2.1
  have pa := pl_sc hP hg hf.1 hf.2 hsc (σ.1 138)
  have N : ∀ m, nl π k m := fun m => Or.inl nx
  have B0 : bo σ σ (b1 π L β k) := bo_0 X rfl rfl
  apply po_enter X
  generalize σ.1 138 = x at *
  rw [lc_16 X, ho, show it_in (iv_z π f) (ly_p π f) (iv_z π (π.2 18 k) 0) (ly_p π (π.2 18 k) 0 0) 15 (π.2 18 k) (π.2 19 k) (π.2 20 k) (ly_a π L (ly_gi π k)) (L k) (ly_b π L k) = it_out (iv_z π f) (ly_p π f) (π.2 18 k) from rfl]
  unfold it_out
  by_cases g : iv_z π f (π.2 18 k) = 2
  · rw [it_2_2 g]
    rw [if_pos g] at h
    have p1 := pa.2.2.2 g
    apply g_lda C (N _) pa.2.1
    intro z1 _
    rw [px_m_1 (show ly_p π f (π.2 18 k) 0 < 256 by omega)]
    apply g_out C (N _) (by omega)
    apply g_lda (gc_snd C _) (N _) pa.2.2.1
    intro z2 _
    rw [px_m_1 (show ly_p π f (π.2 18 k) 1 < 256 by omega)]
    apply g_out (gc_snd C _) (N _) (by rw [po_snd_135]; omega)
    have B1 := bo_snd B0 (by omega) (β.2 56 (ly_p π f (π.2 18 k) 0))
    have B2 := bo_snd B1 (by rw [po_snd_135]; omega) (β.2 56 (ly_p π f (π.2 18 k) 1))
    rw [p1.1] at B2 ⊢
    refine g_end (fun τ s P => h τ (rc_fall X (by omega) (by omega) (by omega) P ?_ ?_ ?_ ?_ ?_ B2)) hk.1
    · rw [am_snd_55.1, am_snd_55.1]; rfl
    · rw [(mo_snd_185 _).1, (mo_snd_185 _).1]; rfl
    · rw [am_snd_55.2, am_snd_55.2]; exact X.2.2.1
    · rw [am_snd_184, am_snd_184]; rfl
    · rw [(mo_snd_185 _).2.2.1, (mo_snd_185 _).2.2.1]; rfl
  · rw [it_2_1 g]
    rw [if_neg g] at h
    apply g_lda C (N _) pa.2.1
    intro z1 _
    rw [px_m_1 (show ly_p π f (π.2 18 k) 0 < 256 by omega)]
    apply g_out C (N _) (by omega)
    have B1 := bo_snd B0 (by omega) (β.2 56 (ly_p π f (π.2 18 k) 0))
    refine g_end (fun τ s P => h τ (rc_fall X (by omega) (by omega) (by omega) P ?_ ?_ ?_ ?_ ?_ B1)) hk.1
    · rw [am_snd_55.1]; rfl
    · rw [(mo_snd_185 _).1]; rfl
    · rw [am_snd_55.2]; exact X.2.2.1
    · rw [am_snd_184]; rfl
    · rw [(mo_snd_185 _).2.2.1]; rfl
end AR
