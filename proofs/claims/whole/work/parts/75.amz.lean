/-! the machine stays whole -/
section AMZ
variable {π α β : fb_S} {L : Int → Int} {f v K k x : Int}
def am_by (α : fb_S) : Prop := ∀ j, 0 ≤ j → j < 128 → 0 ≤ α.2 56 j ∧ α.2 56 j ≤ 255
theorem am_by_sm (h : am_by α) {i w : Int} (hw : 0 ≤ w ∧ w ≤ 255) : am_by (fb_sm α 56 i w) := by
  intro j j0 j1
  rw [fb_at]
  split
  · exact hw
  · exact h j j0 j1
theorem am_by_wr (h : am_by α) : am_by (am_wr π α f v x) := by
  unfold am_wr
  split
  · exact am_by_sm (am_by_sm h (by omega)) (by omega)
  · exact am_by_sm h (by omega)
theorem am_by_snd (h : am_by α) : am_by (am_snd α x) := by
  have e := (mo_snd_185 (σ := α) x).2.2.1
  unfold am_by
  rw [e]
  exact h
theorem am_W_adv (W : am_W π α) {β : fb_S} (h55 : β.2 55 = α.2 55) (h185 : β.1 185 = α.1 185) (hb : am_by β) {K' : Int} (hK : am_vK π K') (hf : K' / 24 = am_K α / 24) : am_W π (am_adv β K') := by
  obtain ⟨w1, w2, w3, w4, w5⟩ := W
  have n : (am_adv β K').1 185 = α.1 185 := h185
  have s : ∀ j, (am_adv β K').2 55 j = if j = α.1 185 - 1 then K' else α.2 55 j := by
    intro j
    unfold am_adv
    rw [fb_at, h185, h55]
  have d : (am_adv β K').2 56 = β.2 56 := by unfold am_adv; exact fb_ne (by decide)
  have top : ∀ j, j = α.1 185 - 1 → α.2 55 j / 24 = K' / 24 := fun j e => by rw [hf, e]; rfl
  refine ⟨by rw [n]; exact w1, fun j j0 j1 => ?_, fun j j0 j1 => ?_, ?_, ?_⟩
  · rw [s]
    split
    · exact hK
    · exact w2 j j0 (by omega)
  · rw [n] at j1
    have := w3 j j0 j1
    rw [s j, if_neg (by omega), s (j + 1)]
    refine ⟨this.1, ?_⟩
    split
    · next e => rw [this.2]; exact top _ e
    · exact this.2
  · rw [s]
    split
    · next e => rw [← top 0 e]; exact w4
    · exact w4
  · rw [d]; exact hb
def am_Z (π α γ : fb_S) : Prop := (α.1 186 ≤ γ.1 186 ∧ γ.1 186 ≤ α.1 186 + 2) ∧ ((γ.1 183 = α.1 183 ∧ am_W π γ) ∨ γ.1 183 = 1 ∨ γ.1 183 = 2)
theorem am_Z_ite {c : Prop} [Decidable c] {γ δ : fb_S} (h1 : c → am_Z π α γ) (h2 : ¬ c → am_Z π α δ) : am_Z π α (if c then γ else δ) := by
  by_cases h : c
  · rw [if_pos h]; exact h1 h
  · rw [if_neg h]; exact h2 h
theorem am_wr_55 : (am_wr π α f v x).2 55 = α.2 55 := by
  unfold am_wr
  split
  · rw [fb_ne (by decide), fb_ne (by decide)]
  · rw [fb_ne (by decide)]
theorem am_snd_55 : (am_snd α x).2 55 = α.2 55 ∧ (am_snd α x).1 183 = α.1 183 := by
  unfold am_snd
  split
  · exact ⟨rfl, rfl⟩
  · exact ⟨by rw [fb_sg2, fb_ne (by decide)], rfl⟩
theorem am_Z_wadv (W : am_W π α) (hb : am_by α) (hK : am_vK π K) (hf : K / 24 = am_K α / 24) : am_Z π α (am_adv (am_wr π α f v x) K) := by
  have e186 : (am_adv (am_wr π α f v x) K).1 186 = α.1 186 := by show (am_wr π α f v x).1 186 = _; rw [am_wr_185]
  have e183 : (am_adv (am_wr π α f v x) K).1 183 = α.1 183 := by show (am_wr π α f v x).1 183 = _; rw [am_wr_185]
  exact ⟨by omega, Or.inl ⟨e183, am_W_adv W am_wr_55 (by rw [am_wr_185]) (am_by_wr hb) hK hf⟩⟩
theorem am_Z_do (hP : iv_P π) (hg : iv_good π) (W : am_W π α) : am_Z π α (am_do π L α (am_K α) (am_K α / 24) (am_xk π (am_K α))) := by
  have hb : am_by α := W.2.2.2.2
  have hvK : am_vK π (am_K α) := W.2.1 _ (by have := W.1; omega) (by omega)
  have hv := am_vK_k hP hvK
  have nx := am_next hP hg hvK
  have hgi : (π.2 17 (am_xk π (am_K α)) = 10 ∨ π.2 17 (am_xk π (am_K α)) = 11 ∨ π.2 17 (am_xk π (am_K α)) = 12) → am_vK π (kx π (ly_gi π (am_xk π (am_K α)))) ∧ kx π (ly_gi π (am_xk π (am_K α))) / 24 = am_K α / 24 := by
    intro ho
    have h1 := ly_gi_in hP hg hv.2.2.1.1 hv.2.2.1.2 (by omega)
    have h2 := am_kx_v hP h1.1 h1.2
    refine ⟨h2.1, ?_⟩
    rw [h2.2.2]
    have ht := hg.2.1 _ hv.2.2.1.1 hv.2.2.1.2 (show iv_isT (π.2 17 (am_xk π (am_K α))) by unfold iv_isT; omega)
    rw [hv.2.2.2.1] at ht
    have egi : ly_gi π (am_xk π (am_K α)) = π.2 14 (am_K α / 24) + iv_tg π (am_xk π (am_K α)) := by unfold ly_gi; rw [if_neg (by omega), hv.2.2.2.1]
    rw [egi]
    exact (iv_fk hP hv.1.1 hv.1.2 ht.1 ht.2).2.1
  have dec : ∀ c : Bool, (π.2 17 (am_xk π (am_K α)) = 11 ∨ π.2 17 (am_xk π (am_K α)) = 12) → am_Z π α (am_dec π L α (am_K α) (am_xk π (am_K α)) c) := by
    intro c ho
    refine ⟨by show α.1 186 ≤ α.1 186 ∧ α.1 186 ≤ α.1 186 + 2; omega, Or.inl ⟨rfl, ?_⟩⟩
    unfold am_dec
    have n1 := nx (by omega) (by omega)
    have g1 := hgi (by omega)
    cases c with
    | true => exact am_W_adv W rfl rfl hb g1.1 g1.2
    | false => exact am_W_adv W rfl rfl hb n1.1 n1.2.2
  have flt : am_Z π α (am_flt π L α (am_xk π (am_K α))) := ⟨by show α.1 186 ≤ α.1 186 ∧ α.1 186 ≤ α.1 186 + 2; omega, Or.inr (Or.inr rfl)⟩
  have wa : ∀ {v x : Int}, ¬ π.2 17 (am_xk π (am_K α)) = 10 → ¬ π.2 17 (am_xk π (am_K α)) = 14 → am_Z π α (am_adv (am_wr π α (am_K α / 24) v x) (am_K α + 1)) := fun h1 h2 => am_Z_wadv W hb (nx h1 h2).1 (nx h1 h2).2.2
  unfold am_do
  refine am_Z_ite (fun o => ?_) (fun n10 => am_Z_ite (fun o => dec _ (Or.inl o)) (fun n11 => am_Z_ite (fun o => dec _ (Or.inr o)) (fun n12 => am_Z_ite (fun o => am_Z_ite (fun _ => wa n10 (by omega)) (fun _ => flt)) (fun n8 => am_Z_ite (fun o => am_Z_ite (fun lt => ?_) (fun _ => flt)) (fun n9 => am_Z_ite (fun o => ?_) (fun n13 => am_Z_ite (fun o => ?_) (fun n14 => am_Z_ite (fun o => ?_) (fun n15 => am_Z_ite (fun o => wa n10 n14) (fun n0 => wa n10 n14)))))))))
  · have g1 := hgi (Or.inl o)
    exact ⟨by show α.1 186 ≤ α.1 186 ∧ α.1 186 ≤ α.1 186 + 2; omega, Or.inl ⟨rfl, am_W_adv W rfl rfl hb g1.1 g1.2⟩⟩
  · have n1 := nx n10 (by omega)
    refine ⟨by show α.1 186 ≤ α.1 186 ∧ α.1 186 ≤ α.1 186 + 2; omega, Or.inl ⟨rfl, am_W_adv W (fb_ne (by decide)) rfl (am_by_sm hb (by omega)) n1.1 n1.2.2⟩⟩
  · have hr := am_room hP hg W o
    have hcc := hg.2.2.1 _ hv.2.2.1.1 hv.2.2.1.2 o
    have en : ∀ β : fb_S, β.1 = α.1 → β.2 55 = α.2 55 → am_by β → am_Z π α (fb_sg (fb_sm β 55 (β.1 185) (24 * π.2 18 (am_xk π (am_K α)))) 185 (β.1 185 + 1)) := by
      intro β e1 e55 hbβ
      have n : (fb_sg (fb_sm β 55 (β.1 185) (24 * π.2 18 (am_xk π (am_K α)))) 185 (β.1 185 + 1)).1 185 = α.1 185 + 1 := by rw [← e1]; rfl
      have s : ∀ j, (fb_sg (fb_sm β 55 (β.1 185) (24 * π.2 18 (am_xk π (am_K α)))) 185 (β.1 185 + 1)).2 55 j = if j = α.1 185 then 24 * π.2 18 (am_xk π (am_K α)) else α.2 55 j := fun j => by rw [fb_sg2, fb_at, e1, e55]
      have d : (fb_sg (fb_sm β 55 (β.1 185) (24 * π.2 18 (am_xk π (am_K α)))) 185 (β.1 185 + 1)).2 56 = β.2 56 := by rw [fb_sg2, fb_ne (by decide)]
      have e186 : (fb_sg (fb_sm β 55 (β.1 185) (24 * π.2 18 (am_xk π (am_K α)))) 185 (β.1 185 + 1)).1 186 = α.1 186 := by rw [← e1]; rfl
      obtain ⟨w1, w2, w3, w4, w5⟩ := W
      refine ⟨by omega, Or.inl ⟨by rw [← e1]; rfl, ⟨by rw [n]; omega, fun j j0 j1 => ?_, fun j j0 j1 => ?_, ?_, ?_⟩⟩⟩
      · rw [s]
        split
        · have hne := (hg.1.2 _ hcc.1 hcc.2).1
          have hb15 := hP.2.1 _ hcc.1 (show π.2 18 (am_xk π (am_K α)) < 6 by have := hr.2.2.1; omega)
          refine ⟨by omega, by rw [show 24 * π.2 18 (am_xk π (am_K α)) / 24 = π.2 18 (am_xk π (am_K α)) by omega]; exact hcc.2, ?_⟩
          rw [show 24 * π.2 18 (am_xk π (am_K α)) / 24 = π.2 18 (am_xk π (am_K α)) by omega]
          omega
        · exact w2 j j0 (by omega)
      · rw [n] at j1
        rw [s j, if_neg (by omega), s (j + 1)]
        by_cases e : j + 1 = α.1 185
        · rw [if_pos e, show j = α.1 185 - 1 by omega]
          exact ⟨o, by show π.2 18 (am_xk π (am_K α)) = _; omega⟩
        · rw [if_neg e]; exact w3 j j0 (by omega)
      · rw [s, if_neg (by omega)]; exact w4
      · rw [d]; exact hbβ
    unfold am_ent
    by_cases hz : iv_z π (π.2 18 (am_xk π (am_K α))) 0 = 1 ∨ iv_z π (π.2 18 (am_xk π (am_K α))) 0 = 2
    · rw [if_pos hz]
      exact en _ am_wr_185 am_wr_55 (am_by_wr hb)
    · rw [if_neg hz]
      exact en _ rfl rfl hb
  · have hfi := (iv_k hP hv.2.2.1.1 hv.2.2.1.2).2.2.2.1
    rw [hv.2.2.2.1] at hfi
    have hsc := hfi.2.2.2.2.2.2.2.2.2.2.2.2.2.1 o
    have hne : iv_z π (am_K α / 24) (π.2 18 (am_xk π (am_K α))) ≠ 0 := by
      clear hfi
      unfold iv_sc at hsc
      omega
    clear hfi
    have hr := am_rd_in (v := π.2 18 (am_xk π (am_K α))) hb hP hg hv.1.1 hv.1.2 hne
    generalize am_rd π (α.2 56) (am_K α / 24) (π.2 18 (am_xk π (am_K α))) = x at *
    unfold am_lv
    refine am_Z_ite (fun m0 => ⟨by show α.1 186 ≤ α.1 186 ∧ α.1 186 ≤ α.1 186 + 2; omega, Or.inr (Or.inl rfl)⟩) (fun m0 => ?_)
    obtain ⟨w1, w2, w3, w4, w5⟩ := W
    have h2 : am_vK π (α.2 55 (α.1 185 - 1 - 1)) := w2 _ (by omega) (by omega)
    have h13 := (w3 (α.1 185 - 1 - 1) (by omega) (by omega)).1
    have n2 := am_next hP hg h2 (by omega) (by omega)
    have b0 : am_by (am_lv0 α x) := by
      unfold am_lv0 am_by
      rw [fb_sg2]
      exact am_by_sm (am_by_sm hb (by omega)) (by omega)
    have l55 : (am_lv0 α x).2 55 = α.2 55 := by unfold am_lv0; rw [fb_sg2, fb_ne (by decide), fb_ne (by decide)]
    have l185 : (am_lv0 α x).1 185 = α.1 185 - 1 := rfl
    have Wl : am_W π (am_lv0 α x) := by
      refine ⟨by rw [l185]; omega, ?_, ?_, ?_, b0⟩
      · rw [l185, l55]; exact fun j j0 j1 => w2 j j0 (by omega)
      · rw [l185, l55]; exact fun j j0 j1 => w3 j j0 (by omega)
      · rw [l55]; exact w4
    have Kl : am_K (am_lv0 α x) = α.2 55 (α.1 185 - 1 - 1) := by
      show (am_lv0 α x).2 55 ((am_lv0 α x).1 185 - 1) = _
      rw [l185, l55]
    generalize hγ : am_wr π (am_lv0 α x) (α.2 55 (α.1 185 - 1 - 1) / 24) (π.2 20 (am_xk π (α.2 55 (α.1 185 - 1 - 1)))) x = γ
    have g1 : γ.1 = (am_lv0 α x).1 := by rw [← hγ]; exact am_wr_185
    have g55 : γ.2 55 = (am_lv0 α x).2 55 := by rw [← hγ]; exact am_wr_55
    have gb : am_by γ := by rw [← hγ]; exact am_by_wr b0
    refine ⟨?_, Or.inl ⟨?_, am_W_adv Wl g55 (by show γ.1 185 = _; rw [g1]) gb n2.1 (by rw [Kl]; exact n2.2.2)⟩⟩
    · show α.1 186 ≤ γ.1 186 ∧ γ.1 186 ≤ α.1 186 + 2
      rw [g1]
      show α.1 186 ≤ α.1 186 ∧ α.1 186 ≤ α.1 186 + 2
      omega
    · show γ.1 183 = _
      rw [g1]
      rfl
  · have n1 := nx n10 n14
    have a1 := mo_snd_185 (σ := α) (α.2 56 (ly_p π (am_K α / 24) (π.2 18 (am_xk π (am_K α))) 0))
    have a2 := mo_snd_185 (σ := am_snd α (α.2 56 (ly_p π (am_K α / 24) (π.2 18 (am_xk π (am_K α))) 0))) (α.2 56 (ly_p π (am_K α / 24) (π.2 18 (am_xk π (am_K α))) 0 + 1))
    by_cases hz : iv_z π (am_K α / 24) (π.2 18 (am_xk π (am_K α))) = 2
    · rw [if_pos hz]
      refine ⟨?_, Or.inl ⟨?_, am_W_adv W (am_snd_55.1.trans am_snd_55.1) (a2.1.trans a1.1) (am_by_snd (am_by_snd hb)) n1.1 n1.2.2⟩⟩
      · show α.1 186 ≤ (am_snd (am_snd α _) _).1 186 ∧ (am_snd (am_snd α _) _).1 186 ≤ _
        rw [a2.2.1, a1.2.1]
        omega
      · exact am_snd_55.2.trans am_snd_55.2
    · rw [if_neg hz]
      refine ⟨?_, Or.inl ⟨?_, am_W_adv W am_snd_55.1 a1.1 (am_by_snd hb) n1.1 n1.2.2⟩⟩
      · show α.1 186 ≤ (am_snd α _).1 186 ∧ (am_snd α _).1 186 ≤ _
        rw [a1.2.1]
        omega
      · exact am_snd_55.2
theorem am_Z_st (hP : iv_P π) (hg : iv_good π) (W : am_W π α) : am_Z π α (am_st π L α) := am_Z_do (α := fb_sg α 184 (α.1 184 + ly_w1 π L (am_xk π (am_K α)))) hP hg W
end AMZ
