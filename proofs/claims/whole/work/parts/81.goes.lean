/-! the class's processor: where it goes -/
section GO
variable {E : fb_E} {π σ τ : fb_S} {L : Int → Int} {S k s n q a x c z : Int} {d : Int → Int} {l m : em_I} {Q : Int → fb_S → Prop}
theorem em_raw : ∀ (l : em_I) (h : Int), (∀ y ∈ l, y.1 = 30) → em_B h l = l.map (fun y => y.2) ∧ em_H h l = h ∧ em_W h l = 0
  | [], _, _ => ⟨rfl, rfl, rfl⟩
  | y :: l, h, hl => by
    have e : y.1 = 30 := hl y List.mem_cons_self
    have ih := em_raw l h (fun w hw => hl w (List.mem_cons_of_mem _ hw))
    have e1 : em_b h y.1 y.2 = [y.2] := by rw [e]; rfl
    have e2 : em_h h y.1 y.2 = h := by rw [e]; rfl
    have e3 : em_w h y.1 y.2 = 0 := by rw [e]; rfl
    refine ⟨?_, ?_, ?_⟩
    · show em_b h y.1 y.2 ++ em_B (em_h h y.1 y.2) l = _
      rw [e1, e2, ih.1]
      rfl
    · show em_H (em_h h y.1 y.2) l = _
      rw [e2]; exact ih.2.1
    · show em_w h y.1 y.2 + em_W (em_h h y.1 y.2) l = _
      rw [e2, e3, ih.2.2]
      rfl
theorem pm_N {w w' p p' : Int} (h : pm σ τ p w d a x c z) (hw : w' = w + 1) : pm σ (px_N τ p') p' w' d a x c z := by
  obtain ⟨f0, ⟨f1, f2⟩, f3⟩ := h
  refine ⟨fr_tr f0 (px_N_fr _ _), ⟨rfl, ?_⟩, f3⟩
  show τ.1 134 + 1 = _
  omega
/-- a branch, at the end of an instruction -/
theorem g_br (C : gc π L k σ) (nx : k + 1 < π.1 42) (hn : n = 14 ∨ n = 16) (ho : π.2 17 k = 11 ∨ π.2 17 k = 12) (hg : 0 ≤ ly_gi π k ∧ ly_gi π k < π.1 42) (hb : ly_b π L k = pp π L k l) (t : Prop) (ht : t ↔ ((n = 14 ∧ z = 1) ∨ (n = 16 ∧ c = 0)))
    (h0 : ¬ t → ∀ τ', pm σ τ' (ly_a π L (k + 1)) (em_W (ly_i π L k) l + 1) d a x c z → hv d a (hh π L k l) → Q 0 τ') (h1 : t → ∀ τ', pm σ τ' (ly_a π L (ly_gi π k)) (em_W (ly_i π L k) l + (if ¬ L k = 0 then 2 else 1)) d a x c z → Q 0 τ') : Gt S E π L k σ Q l (it_br n (ly_b π L k) (ly_a π L (ly_gi π k)) (L k)) d a x c z := by
  intro e τ s P
  have P0 := P
  obtain ⟨fm, f11, f12⟩ := P0
  have fm0 := fm
  obtain ⟨f0, ⟨f1, f2⟩, f3, ⟨f4, f5⟩, ⟨f6, f7⟩, ⟨f8, f9⟩, f10⟩ := fm0
  obtain ⟨hC, hk, hz0⟩ := C
  have hgl := lb_at hC hg.1 hg.2
  have hl : l.length ≤ 9 := by
    have := lc_len (π := π) (L := L) (k := k)
    rw [e, List.length_append] at this
    omega
  have e133 : τ.1 133 = 0 := (f0.1 133 (by decide)).trans hz0
  have e32 : τ.2 32 = σ.2 32 := f0.2 32 (by simp)
  have e31 : τ.2 31 = σ.2 31 := f0.2 31 (by simp)
  rw [hb] at e
  have hfix := congrFun hC.2.2.2.2.2.2.2 k
  by_cases gl : L k = 0
  · have near : -128 ≤ ly_a π L (ly_gi π k) - (ly_b π L k + 2) ∧ ly_a π L (ly_gi π k) - (ly_b π L k + 2) ≤ 127 := by
      by_cases g : -128 ≤ ly_a π L (ly_gi π k) - (ly_b π L k + 2) ∧ ly_a π L (ly_gi π k) - (ly_b π L k + 2) ≤ 127
      · exact g
      · rw [ly_st_y ⟨hk, gl, ho, g⟩] at hfix
        omega
    rw [hb] at near
    have em : it_br n (pp π L k l) (ly_a π L (ly_gi π k)) (L k) = [(30, 8 * n + 6), (30, (ly_a π L (ly_gi π k) - (pp π L k l + 2)) % 256)] := if_pos gl
    rw [em] at e
    have hcb := pi_cb hC hk.1 hk.2 (m1 := [(30, 8 * n + 6), (30, (ly_a π L (ly_gi π k) - (pp π L k l + 2)) % 256)]) (m2 := []) (by rw [List.append_nil]; exact e)
    rw [(em_raw _ _ (by simp)).1] at hcb
    obtain ⟨c1, c2, c3, c4⟩ := hcb
    simp only [List.map_cons, List.map_nil, List.length_cons, List.length_nil, em_B] at c1 c2 c3
    obtain ⟨D, hD'⟩ : ∃ D, D = ly_a π L (ly_gi π k) - (pp π L k l + 2) := ⟨_, rfl⟩
    rw [← hD'] at c1 near
    have hD : ly_a π L (ly_gi π k) = pp π L k l + 2 + D := by omega
    refine ⟨fun g => by omega, fun _ => ?_⟩
    apply pf_go hC (by omega)
    apply px_branch (pp π L k l) n (D % 256) t f1 (cb_fr c1 e31) (by omega) (by omega) (by rw [f10.1]; exact f10.2) (by rw [f8]; exact f9)
    · rw [ht, f10.1, f8]
      omega
    · intro nt
      refine Or.inr ⟨e133, e32, k + 1, by omega, Or.inl ⟨?_, h0 nt _ ?_ f11⟩⟩
      · show pp π L k l + 2 = _
        omega
      · rw [show ly_a π L (k + 1) = pp π L k l + 2 by omega]
        exact pm_N fm rfl
    · intro yt
      have hj : pp π L k l + 2 + (if D % 256 < 128 then D % 256 else D % 256 - 256) = ly_a π L (ly_gi π k) := by
        rw [hD]
        by_cases g : D % 256 < 128
        · rw [if_pos g]; omega
        · rw [if_neg g]; omega
      rw [hj]
      refine Or.inr ⟨e133, e32, ly_gi π k, hg, Or.inl ⟨rfl, h1 yt _ ?_⟩⟩
      rw [if_neg (fun h => h gl)]
      exact pm_N fm rfl
  · have em : it_br n (pp π L k l) (ly_a π L (ly_gi π k)) (L k) = [(30, 8 * (n + 1) + 6), (30, 3), (30, 151), (30, ly_a π L (ly_gi π k) % 256), (30, ly_a π L (ly_gi π k) / 256)] := if_neg gl
    rw [em] at e
    have hcb := pi_cb hC hk.1 hk.2 (m1 := [(30, 8 * (n + 1) + 6), (30, 3), (30, 151), (30, ly_a π L (ly_gi π k) % 256), (30, ly_a π L (ly_gi π k) / 256)]) (m2 := []) (by rw [List.append_nil]; exact e)
    rw [(em_raw _ _ (by simp)).1] at hcb
    obtain ⟨c1, c2, c3, c4⟩ := hcb
    simp only [List.map_cons, List.map_nil, List.length_cons, List.length_nil, em_B] at c1 c2 c3
    have c1' := cb_fr c1 e31
    refine ⟨fun g => by omega, fun _ => ?_⟩
    apply pf_go hC (by omega)
    apply px_branch (pp π L k l) (n + 1) 3 (¬ t) f1 (cb_app1 (B1 := [8 * (n + 1) + 6, 3]) (B2 := [151, ly_a π L (ly_gi π k) % 256, ly_a π L (ly_gi π k) / 256]) c1') (by omega) (by omega) (by rw [f10.1]; exact f10.2) (by rw [f8]; exact f9)
    · rw [ht, f10.1, f8]
      omega
    · intro nt
      have yt : t := Classical.not_not.mp nt
      refine Or.inr ⟨e133, e32, k, hk, Or.inr ⟨?_, ?_⟩⟩
      · show ly_a π L k < pp π L k l + 2 ∧ pp π L k l + 2 < ly_a π L (k + 1)
        omega
      · have c9 := cb_tl (τ := px_N τ (pp π L k l + 2)) (cb_tl (τ := px_N τ (pp π L k l + 2)) c1' rfl) rfl
        rw [show pp π L k l + 1 + 1 = pp π L k l + 2 by omega] at c9
        apply pf_go hC (by omega)
        apply px_jump (σ := px_N τ (pp π L k l + 2)) (pp π L k l + 2) 18 (ly_a π L (ly_gi π k)) rfl c9 (by omega) (fun g => by omega) (fun _ => ?_) (fun g => by omega)
        refine Or.inr ⟨e133, e32, ly_gi π k, hg, Or.inl ⟨rfl, h1 yt _ ?_⟩⟩
        rw [if_pos gl]
        exact pm_N (pm_N (p' := pp π L k l + 2) (w' := em_W (ly_i π L k) l + 1) fm rfl) (by omega)
    · intro nt
      rw [show pp π L k l + 2 + (if (3 : Int) < 128 then 3 else 3 - 256) = ly_a π L (k + 1) by rw [if_pos (by omega)]; omega]
      refine Or.inr ⟨e133, e32, k + 1, by omega, Or.inl ⟨rfl, h0 nt _ ?_ f11⟩⟩
      exact pm_N fm rfl
/-- GOTO -/
theorem g_jmp (C : gc π L k σ) (hg : 0 ≤ ly_gi π k ∧ ly_gi π k < π.1 42) (h : ∀ τ', pm σ τ' (ly_a π L (ly_gi π k)) (em_W (ly_i π L k) (l ++ [(18, ly_a π L (ly_gi π k))])) d a x c z → Q 0 τ') : Gt S E π L k σ Q l [(18, ly_a π L (ly_gi π k))] d a x c z := by
  intro e τ s P
  obtain ⟨fm, f11, f12⟩ := P
  have fm0 := fm
  obtain ⟨f0, ⟨f1, f2⟩, f3⟩ := fm0
  obtain ⟨hC, hk, hz0⟩ := C
  have hcb := pi_cb hC hk.1 hk.2 (m1 := [(18, ly_a π L (ly_gi π k))]) (m2 := []) (by rw [List.append_nil]; exact e)
  rw [em_B_1, show em_b (hh π L k l) 18 (ly_a π L (ly_gi π k)) = [8 * 18 + 7, ly_a π L (ly_gi π k) % 256, ly_a π L (ly_gi π k) / 256] from rfl] at hcb
  obtain ⟨c1, c2, c3, c4⟩ := hcb
  simp only [List.length_cons, List.length_nil] at c2
  have hl : l.length ≤ 9 := by
    have := lc_len (π := π) (L := L) (k := k)
    rw [e, List.length_append] at this
    omega
  refine ⟨fun g => by omega, fun _ => ?_⟩
  apply pf_go hC (by omega)
  apply px_jump (pp π L k l) 18 (ly_a π L (ly_gi π k)) f1 (cb_fr c1 (f0.2 31 (by simp))) (by omega) (fun g => by omega) (fun _ => ?_) (fun g => by omega)
  exact Or.inr ⟨(f0.1 133 (by decide)).trans hz0, f0.2 32 (by simp), ly_gi π k, hg, Or.inl ⟨rfl, h _ (pm_N fm (em_w_a (by omega)))⟩⟩
/-- JSR -/
theorem g_jsr (C : gc π L k σ) (hg : 0 ≤ ly_gi π k ∧ ly_gi π k < π.1 42) (hr : 0 ≤ σ.1 132 ∧ σ.1 132 < 6) (h : ∀ τ', pm (fb_sg (fb_sm σ 39 (σ.1 132) (pp π L k (l ++ [(19, ly_a π L (ly_gi π k))]))) 132 (σ.1 132 + 1)) τ' (ly_a π L (ly_gi π k)) (em_W (ly_i π L k) (l ++ [(19, ly_a π L (ly_gi π k))])) d a x c z → Q 0 τ') : Gt S E π L k σ Q l ((19, ly_a π L (ly_gi π k)) :: m) d a x c z := by
  intro e τ s P
  obtain ⟨fm, f11, f12⟩ := P
  have fm0 := fm
  obtain ⟨f0, ⟨f1, f2⟩, f3⟩ := fm0
  obtain ⟨hC, hk, hz0⟩ := C
  have hcb := pi_cb hC hk.1 hk.2 (m1 := [(19, ly_a π L (ly_gi π k))]) (m2 := m) e
  rw [em_B_1, show em_b (hh π L k l) 19 (ly_a π L (ly_gi π k)) = [8 * 19 + 7, ly_a π L (ly_gi π k) % 256, ly_a π L (ly_gi π k) / 256] from rfl] at hcb
  obtain ⟨c1, c2, c3, c4⟩ := hcb
  simp only [List.length_cons, List.length_nil] at c2
  have hl : l.length ≤ 9 := by
    have := lc_len (π := π) (L := L) (k := k)
    rw [e, List.length_append] at this
    omega
  have e132 : τ.1 132 = σ.1 132 := f0.1 132 (by decide)
  have e3 : pp π L k l + 3 = pp π L k (l ++ [(19, ly_a π L (ly_gi π k))]) := by omega
  refine ⟨fun g => by omega, fun _ => ?_⟩
  apply pf_go hC (by omega)
  apply px_jump (pp π L k l) 19 (ly_a π L (ly_gi π k)) f1 (cb_fr c1 (f0.2 31 (by simp))) (by omega) (fun _ => by omega) (fun g => by omega) (fun _ => ?_)
  rw [e3, e132]
  refine Or.inr ⟨(f0.1 133 (by decide)).trans hz0, ?_, ly_gi π k, hg, Or.inl ⟨rfl, h _ ⟨⟨fun j hj => ?_, fun b hb => ?_⟩, ⟨rfl, ?_⟩, ?_⟩⟩⟩
  · rw [fb_sg2, fb_sg2, fb_ne (by decide)]
    exact f0.2 32 (by simp)
  · have hj2 : j ≠ 136 := fun e => hj (by rw [e]; decide)
    have hj3 : j ≠ 134 := fun e => hj (by rw [e]; decide)
    rw [fb_sg1, if_neg hj2, fb_sg1, fb_sg1, fb_sm1, fb_sm1]
    unfold px_N
    rw [fb_sg1, if_neg hj2, fb_sg1, if_neg hj3, f0.1 j hj]
  · funext i
    rw [fb_sg2, fb_sg2, fb_sg2, fb_a2, fb_a2]
    unfold px_N
    rw [fb_sg2, fb_sg2, f0.2 b hb]
  · show τ.1 134 + 1 = σ.1 134 + _
    rw [em_w_a (by omega)]
    omega
  · rw [fb_sg2, fb_sg2, fb_ne (by decide)]
    exact f3
/-- RTS -/
theorem g_rts (C : gc π L k σ) (hr : 0 ≤ σ.1 132 ∧ σ.1 132 ≤ 6) (h0 : σ.1 132 = 0 → ∀ τ' p, pm (fb_sg σ 133 1) τ' p (em_W (ly_i π L k) (l ++ [(20, 0)])) d a x c z → Q 0 τ') (h1 : ¬ σ.1 132 = 0 → (∃ j, (0 ≤ j ∧ j < π.1 42) ∧ (ly_a π L j < σ.2 39 (σ.1 132 - 1) ∧ σ.2 39 (σ.1 132 - 1) < ly_a π L (j + 1))) ∧ ∀ τ' s', (0 ≤ s' ∧ s' ≤ S + 10) → pm (fb_sg σ 132 (σ.1 132 - 1)) τ' (σ.2 39 (σ.1 132 - 1)) (em_W (ly_i π L k) (l ++ [(20, 0)])) d a x c z → Pf E s' τ' Q) : Gt S E π L k σ Q l [(20, 0)] d a x c z := by
  intro e τ s P
  obtain ⟨fm, f11, f12⟩ := P
  have fm0 := fm
  obtain ⟨f0, ⟨f1, f2⟩, f3⟩ := fm0
  obtain ⟨hC, hk, hz0⟩ := C
  have hcb := pi_cb hC hk.1 hk.2 (m1 := [(20, 0)]) (m2 := []) (by rw [List.append_nil]; exact e)
  rw [em_B_1, show em_b (hh π L k l) 20 0 = [8 * 20] from rfl] at hcb
  obtain ⟨c1, c2, c3, c4⟩ := hcb
  simp only [List.length_cons, List.length_nil] at c2
  have hl : l.length ≤ 9 := by
    have := lc_len (π := π) (L := L) (k := k)
    rw [e, List.length_append] at this
    omega
  have e132 : (px_N τ (pp π L k l + 1)).1 132 = σ.1 132 := f0.1 132 (by decide)
  have e39 : (px_N τ (pp π L k l + 1)).2 39 = σ.2 39 := f0.2 39 (by simp)
  have hw : em_W (ly_i π L k) (l ++ [(20, 0)]) = em_W (ly_i π L k) l + 1 := em_w_a (by omega)
  refine ⟨fun g => by omega, fun _ => ?_⟩
  apply pf_go hC (by omega)
  apply px_alone (pp π L k l) 20 f1 (cb_fr c1 (f0.2 31 (by simp))) (by omega)
  apply Po_doAlone_b0
  refine ⟨by omega, fun g => by omega, fun g => by omega, fun _ => ?_, fun g => by omega, fun g => by omega⟩
  apply Po_doReturn_b0
  rw [e132, e39]
  refine ⟨by omega, fun g => ⟨by omega, ?_⟩, fun g => ?_⟩
  · obtain ⟨⟨j, hj, hj2⟩, hgo⟩ := h1 g
    refine Or.inr ⟨(f0.1 133 (by decide)).trans hz0, f0.2 32 (by simp), j, hj, Or.inr ⟨hj2, hgo _ (s + 1) (by omega) ⟨⟨fun i hi => ?_, f0.2⟩, ⟨rfl, ?_⟩, f3⟩⟩⟩
    · have hj2 : i ≠ 136 := fun e => hi (by rw [e]; decide)
      have hj3 : i ≠ 134 := fun e => hi (by rw [e]; decide)
      rw [fb_sg1, if_neg hj2, fb_sg1, fb_sg1]
      unfold px_N
      rw [fb_sg1, if_neg hj2, fb_sg1, if_neg hj3, f0.1 i hi]
    · show τ.1 134 + 1 = σ.1 134 + _
      omega
  · refine Or.inl ⟨Or.inl rfl, h0 g _ (pp π L k l + 1) ⟨⟨fun i hi => ?_, f0.2⟩, ⟨rfl, ?_⟩, f3⟩⟩
    · have hj2 : i ≠ 136 := fun e => hi (by rw [e]; decide)
      have hj3 : i ≠ 134 := fun e => hi (by rw [e]; decide)
      rw [fb_sg1, fb_sg1]
      unfold px_N
      rw [fb_sg1, if_neg hj2, fb_sg1, if_neg hj3, f0.1 i hi]
    · show τ.1 134 + 1 = σ.1 134 + _
      omega
end GO
