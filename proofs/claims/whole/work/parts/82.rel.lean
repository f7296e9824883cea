/-! the class's run against the machine -/
/-- the parameter's items of a CALL; where its code goes on behind the JSR -/
noncomputable def cl (π : fb_S) (k : Int) : em_I := it_par (ly_p π (π.2 16 k)) (iv_z π (π.2 18 k) 0) (ly_p π (π.2 18 k) 0 0) (π.2 19 k)
noncomputable def rt (π : fb_S) (L : Int → Int) (k : Int) : Int := pp π L k (cl π k ++ [(19, ly_a π L (ly_gi π k))])
def Rl (π : fb_S) (L : Int → Int) (β σ : fb_S) : Prop := σ.1 132 = β.1 185 - 1 ∧ σ.1 136 = ly_a π L (am_xk π (am_K β)) ∧ (∀ j, 0 ≤ j → j < 128 → σ.2 37 j = β.2 56 j) ∧ ((0 ≤ σ.1 137 ∧ σ.1 137 ≤ 255) ∧ (0 ≤ σ.1 138 ∧ σ.1 138 ≤ 255) ∧ (0 ≤ σ.1 139 ∧ σ.1 139 ≤ 1) ∧ (0 ≤ σ.1 140 ∧ σ.1 140 ≤ 1)) ∧ hv (β.2 56) (σ.1 137) (ly_i π L (am_xk π (am_K β))) ∧ ∀ j, 0 ≤ j → j + 1 < β.1 185 → σ.2 39 j = rt π L (am_xk π (β.2 55 j))
def Rc (π : fb_S) (L : Int → Int) (β σ : fb_S) : Prop := σ.1 133 = β.1 183 ∧ σ.1 134 = β.1 184 ∧ σ.1 135 = β.1 186 ∧ (∀ j, 0 ≤ j → j < 100 → j < β.1 186 → σ.2 38 j = β.2 57 j) ∧ (β.1 183 = 0 → Rl π L β σ)
def cx (π : fb_S) (L : Int → Int) (β σ : fb_S) (K k f : Int) : Prop := pk π L σ ∧ am_W π β ∧ β.1 183 = 0 ∧ Rc π L β σ ∧ (0 ≤ β.1 186 ∧ β.1 186 < 2147480000) ∧ K = am_K β ∧ k = am_xk π K ∧ f = K / 24
section RE
variable {E : fb_E} {π σ τ α β : fb_S} {L : Int → Int} {S k s n q a x c z K f v : Int} {d : Int → Int} {l m : em_I} {Q : Int → fb_S → Prop}
theorem cx.vK (X : cx π L β σ K k f) : am_vK π K := by
  obtain ⟨x1, x2, x3, x4, x5, x6, x7, x8⟩ := X
  rw [x6]
  exact x2.2.1 _ (by have := x2.1; omega) (by omega)
theorem cx.at (X : cx π L β σ K k f) : (0 ≤ f ∧ f < π.1 41) ∧ (0 ≤ k ∧ k < π.1 42) ∧ π.2 16 k = f ∧ kx π k = K ∧ iv_fi π f (π.2 17 k) (π.2 18 k) (π.2 19 k) (π.2 20 k) := by
  have hv := am_vK_k X.1.1 X.vK
  have he := X.1.1.2.2.2.2.2.2 (K / 24) (K % 24) hv.1.1 hv.1.2 hv.2.1.1 hv.2.1.2
  obtain ⟨x1, x2, x3, x4, x5, x6, x7, x8⟩ := X
  rw [x8, x7]
  exact ⟨hv.1, hv.2.2.1, hv.2.2.2.1, hv.2.2.2.2.1, he.2.2.2.2.2⟩
theorem cx.gc (X : cx π L β σ K k f) : gc π L k σ := ⟨X.1, X.at.2.1, X.2.2.2.1.1.trans X.2.2.1⟩
theorem cx.rl (X : cx π L β σ K k f) : Rl π L β σ := X.2.2.2.1.2.2.2.2 X.2.2.1
theorem cx.nx (X : cx π L β σ K k f) (h1 : ¬ π.2 17 k = 10) (h2 : ¬ π.2 17 k = 14) : k + 1 < π.1 42 ∧ am_xk π (K + 1) = k + 1 := by
  have hv := X.vK
  have hP := X.1.1
  have hg := X.1.2.1
  obtain ⟨x1, x2, x3, x4, x5, x6, x7, x8⟩ := X
  rw [x7] at h1 h2
  have hn := am_next hP hg hv h1 h2
  have h3 := am_vK_k hP hn.1
  rw [x7, ← hn.2.1]
  exact ⟨h3.2.2.1.2, rfl⟩
theorem po_enter (X : cx π L β σ K k f) (h : Gt 0 E π L k σ Q [] (ly_c π L k) (β.2 56) (σ.1 137) (σ.1 138) (σ.1 139) (σ.1 140)) : fb_V E fb_Po_performOne 0 [.inr 4, .inr 999, .inr 999] [] σ Q := by
  obtain ⟨r1, r2, r3, r4, r5, r6⟩ := X.rl
  have hk := X.at.2.1
  have hb := X.2.1.2.2.2.2
  have hl := pk_add X.1 hk.1 hk.2
  obtain ⟨x1, x2, x3, x4, x5, x6, x7, x8⟩ := X
  rw [← x6, ← x7] at r2 r5
  have ep : pp π L k [] = ly_a π L k := by
    show ly_a π L k + ((0 : Nat) : Int) = _
    omega
  apply Po_performOne_b0
  refine (h rfl σ 0 ⟨⟨fr_rf _ _ _, ⟨by rw [ep]; exact r2, by show σ.1 134 = σ.1 134 + 0; omega⟩, fun j j0 j1 => ⟨r3 j j0 j1, hb j j0 j1⟩, ⟨rfl, r4.1⟩, ⟨rfl, r4.2.1⟩, ⟨rfl, r4.2.2.1⟩, ⟨rfl, r4.2.2.2⟩⟩, r5, ?_⟩).2 (by omega)
  show (0 : Int) ≤ 0 ∧ (0 : Int) ≤ 0 + ((0 : Nat) : Int) ∧ (0 : Int) ≤ 20
  omega
/-- what a base keeps, and what was put out -/
def bo (σ σ' β' : fb_S) : Prop := fr_a po_A po_G σ σ' ∧ σ'.1 132 = σ.1 132 ∧ σ'.2 39 = σ.2 39 ∧ σ'.1 134 = σ.1 134 ∧ σ'.1 133 = 0 ∧ σ'.1 135 = β'.1 186 ∧ ∀ j, 0 ≤ j → j < 100 → j < β'.1 186 → σ'.2 38 j = β'.2 57 j
theorem rc_go (X : cx π L β σ K k f) {σ' β' : fb_S} {K' k' w : Int} (M : pm σ' τ (ly_a π L k') w d a x c z) (hk : am_xk π K' = k') (H : hv d a (ly_i π L k')) (e55 : β'.2 55 = β.2 55) (e185 : β'.1 185 = β.1 185) (e183 : β'.1 183 = 0) (e184 : β'.1 184 = β.1 184 + w) (ed : β'.2 56 = d) (B : bo σ σ' β') : fr_a po_A po_G σ τ ∧ Rc π L (am_adv β' K') τ := by
  obtain ⟨r1, r2, r3, r4, r5, r6⟩ := X.rl
  have hn := X.2.1.1
  obtain ⟨x1, x2, x3, x4, x5, x6, x7, x8⟩ := X
  obtain ⟨f0, ⟨f1, f2⟩, f3, ⟨f4, f5⟩, ⟨f6, f7⟩, ⟨f8, f9⟩, f10⟩ := M
  obtain ⟨b1, b2, b3, b4, b5, b6, b7⟩ := B
  have eK : am_K (am_adv β' K') = K' := by
    show (fb_sm β' 55 (β'.1 185 - 1) K').2 55 (β'.1 185 - 1) = K'
    rw [fb_at, if_pos rfl]
  have e56 : (am_adv β' K').2 56 = d := ed
  refine ⟨fr_tr b1 (po_up f0), (f0.1 133 (by decide)).trans (b5.trans e183.symm), ?_, (f0.1 135 (by decide)).trans b6, fun j j0 j1 j2 => ?_, fun _ => ⟨?_, ?_, ?_, ?_, ?_, ?_⟩⟩
  · show τ.1 134 = β'.1 184
    have := x4.2.1
    omega
  · rw [f0.2 38 (by simp)]
    exact b7 j j0 j1 j2
  · show τ.1 132 = β'.1 185 - 1
    rw [f0.1 132 (by decide)]
    omega
  · rw [eK, hk]; exact f1
  · intro j j0 j1
    rw [e56]; exact (f3 j j0 j1).1
  · rw [f4, f6, f8, f10.1]; exact ⟨f5, f7, f9, f10.2⟩
  · rw [eK, hk, e56, f4]; exact H
  · intro j j0 j1
    have j2 : j + 1 < β.1 185 := by rw [← e185]; exact j1
    rw [f0.2 39 (by simp), b3, r6 j j0 j2]
    show _ = rt π L (am_xk π ((fb_sm β' 55 (β'.1 185 - 1) K').2 55 j))
    rw [fb_at, if_neg (by omega), e55]
theorem w1_eq (h : ¬ π.2 17 k = 13) : em_W (ly_i π L k) (ly_c π L k) = ly_w1 π L k := by
  unfold ly_w1 ly_c
  rw [if_neg h, em_W_it]
theorem hv_next (k0 : 0 ≤ k) (h : hv d a (hh π L k (ly_c π L k))) : hv d a (ly_i π L (k + 1)) := by
  by_cases g : ly_rs π (k + 1)
  · rw [ly_i_y g]; exact ⟨by omega, fun h => by omega, fun h => by omega⟩
  · rw [ly_i_n g, ly_o_s k0 (ly_a π L (ly_gi π k)) (ly_b π L k)]
    exact h
theorem bo_0 (X : cx π L β σ K k f) {β' : fb_S} (e186 : β'.1 186 = β.1 186) (e57 : β'.2 57 = β.2 57) : bo σ σ β' := by
  obtain ⟨x1, x2, x3, x4, x5, x6, x7, x8⟩ := X
  obtain ⟨r1, r2, r3, r4, r5⟩ := x4
  refine ⟨fr_rf _ _ _, rfl, rfl, rfl, r1.trans x3, r3.trans e186.symm, ?_⟩
  rw [e186, e57]
  exact r4
/-- an instruction done, on to the next -/
theorem rc_fall (X : cx π L β σ K k f) (h10 : ¬ π.2 17 k = 10) (h14 : ¬ π.2 17 k = 14) (h13 : ¬ π.2 17 k = 13) {σ' β' : fb_S} (P : pt S π L k σ' (ly_c π L k) τ s d a x c z) (e55 : β'.2 55 = β.2 55) (e185 : β'.1 185 = β.1 185) (e183 : β'.1 183 = 0) (e184 : β'.1 184 = β.1 184 + ly_w1 π L k) (ed : β'.2 56 = d) (B : bo σ σ' β') : fr_a po_A po_G σ τ ∧ Rc π L (am_adv β' (K + 1)) τ := by
  obtain ⟨M, H, -⟩ := P
  have hk := X.at.2.1
  have ep : pp π L k (ly_c π L k) = ly_a π L (k + 1) := (ly_a_s (π := π) (L := L) hk.1 (ly_a π L (ly_gi π k)) (ly_b π L k)).symm
  rw [ep, w1_eq h13] at M
  exact rc_go X M (X.nx h10 h14).2 (hv_next hk.1 H) e55 e185 e183 e184 ed B
/-! places -/
theorem ps_le (hP : iv_P π) (f0 : 0 ≤ f) (f6 : f < 6) {i : Nat} : ∀ j : Nat, i < j → (j : Int) ≤ π.2 13 f → iv_ps π f i + π.2 (7 + f.toNat) (i : Int) ≤ iv_ps π f j
  | 0, h, _ => by omega
  | j + 1, h, hj => by
    by_cases e : i = j
    · rw [e]; simp only [iv_ps]; omega
    · have ih := ps_le hP f0 f6 (i := i) j (by omega) (by omega)
      have := hP.2.2.1 f j f0 f6 (by omega) (by omega)
      simp only [iv_ps]
      omega
theorem pl_ne (hP : iv_P π) (hg : iv_good π) (f0 : 0 ≤ f) (f1 : f < π.1 41) {u : Int} (hu : iv_z π f u ≠ 0) (hv : iv_z π f v ≠ 0) (h : u ≠ v) : ly_p π f u 0 + iv_z π f u ≤ ly_p π f v 0 ∨ ly_p π f v 0 + iv_z π f v ≤ ly_p π f u 0 := by
  have hA := hP.1
  unfold iv_A at hA
  have f6 : f < 6 := by omega
  have ru := iv_sc_in hu
  have rv := iv_sc_in hv
  have pu := ly_p0 hP hg f0 f1 hu
  have pv := ly_p0 hP hg f0 f1 hv
  have zu : iv_z π f u = π.2 (7 + f.toNat) u := by unfold iv_z; rw [if_pos ru]
  have zv : iv_z π f v = π.2 (7 + f.toNat) v := by unfold iv_z; rw [if_pos rv]
  have eu : ((u.toNat : Nat) : Int) = u := by omega
  have ev : ((v.toNat : Nat) : Int) = v := by omega
  rw [pu.1, pv.1]
  by_cases g : u < v
  · have := ps_le hP f0 f6 (i := u.toNat) v.toNat (by omega) (by omega)
    rw [eu, ← zu] at this
    omega
  · have := ps_le hP f0 f6 (i := v.toNat) u.toNat (by omega) (by omega)
    rw [ev, ← zv] at this
    omega
theorem lp_1 (hv : iv_sc (iv_z π f) v) : (iv_z π f v = 2 → ly_p π f v 1 = ly_p π f v 0 + 1) ∧ (¬ iv_z π f v = 2 → ly_p π f v 1 = 256) := by
  have hv' : iv_z π f v = 1 ∨ iv_z π f v = 2 := hv
  unfold ly_p
  constructor
  · intro h
    rw [if_pos (by omega), if_pos (by omega)]
    omega
  · intro h
    rw [if_neg (by omega)]
/-- facts of a scalar variable's places -/
theorem pl_sc (hP : iv_P π) (hg : iv_good π) (f0 : 0 ≤ f) (f1 : f < π.1 41) (hv : iv_sc (iv_z π f) v) (x : Int) : (0 ≤ ly_p π f v 0 ∧ ly_p π f v 0 < 120) ∧ qi x (ly_p π f v 0) ∧ qi x (ly_p π f v 1) ∧ (iv_z π f v = 2 → ly_p π f v 1 = ly_p π f v 0 + 1 ∧ ly_p π f v 1 < 120) := by
  have hv' : iv_z π f v = 1 ∨ iv_z π f v = 2 := hv
  have h0 := ly_p0 hP hg f0 f1 (show iv_z π f v ≠ 0 by omega)
  have h1 := lp_1 hv
  unfold qi
  by_cases g : iv_z π f v = 2
  · have := h1.1 g
    exact ⟨by omega, by omega, by omega, fun _ => by omega⟩
  · have := h1.2 g
    exact ⟨by omega, by omega, by omega, fun h => absurd h g⟩
theorem rd_eq (hv : iv_sc (iv_z π f) v) (h120 : 0 ≤ ly_p π f v 0 ∧ ly_p π f v 0 < 120) (h1 : iv_z π f v = 2 → ly_p π f v 1 < 120) (x : Int) : am_rd π d f v = px_m d x (ly_p π f v 0) + 256 * px_m d x (ly_p π f v 1) := by
  have h := lp_1 hv
  unfold am_rd
  rw [px_m_1 (show ly_p π f v 0 < 256 by omega)]
  by_cases g : iv_z π f v = 2
  · have := h1 g
    rw [if_pos g, px_m_1 (show ly_p π f v 1 < 256 by omega), h.1 g]
  · rw [if_neg g, h.2 g, px_m_2 (by omega) (by omega)]
    omega
theorem am_wr_56 {y : Int} : (am_wr π α f v y).2 56 = if iv_z π f v = 2 then up (up (α.2 56) (ly_p π f v 0) (y % 256)) (ly_p π f v 0 + 1) (y / 256 % 256) else up (α.2 56) (ly_p π f v 0) (y % 256) := by
  unfold am_wr
  by_cases g : iv_z π f v = 2
  · rw [if_pos g, if_pos g, up_sm, up_sm]
  · rw [if_neg g, if_neg g, up_sm]
/-- a second byte isn't a first one -/
theorem px_up1 (hP : iv_P π) (hg : iv_good π) (f0 : 0 ≤ f) (f1 : f < π.1 41) {u w x : Int} (hu : iv_z π f u ≠ 0) (hv : iv_sc (iv_z π f) v) : px_m (up d (ly_p π f u 0) w) x (ly_p π f v 1) = px_m d x (ly_p π f v 1) := by
  have hv' : iv_z π f v = 1 ∨ iv_z π f v = 2 := hv
  have h1 := lp_1 hv
  have pu := ly_p0 hP hg f0 f1 hu
  have pv := ly_p0 hP hg f0 f1 (show iv_z π f v ≠ 0 by omega)
  by_cases g : iv_z π f v = 2
  · have e := h1.1 g
    rw [px_m_1 (by omega), px_m_1 (by omega), e]
    apply up_n
    by_cases euv : u = v
    · rw [euv]; omega
    · have := pl_ne hP hg f0 f1 hu (show iv_z π f v ≠ 0 by omega) euv
      omega
  · rw [h1.2 g, px_m_2 (by omega) (by omega), px_m_2 (by omega) (by omega)]
end RE
