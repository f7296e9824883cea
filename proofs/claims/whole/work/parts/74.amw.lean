/-! what the machine keeps -/
section AMW
variable {π α β : fb_S} {L : Int → Int} {f v K k x : Int}
abbrev am_A : List Nat := [55, 56, 57]
abbrev am_G : List Nat := [183, 184, 185, 186]
theorem am_wr_fr : fr_a am_A am_G α (am_wr π α f v x) := by
  unfold am_wr
  split
  · exact fr_sm (fr_sm (fr_rf _ _ _) (by decide)) (by decide)
  · exact fr_sm (fr_rf _ _ _) (by decide)
theorem am_adv_fr (h : fr_a am_A am_G α β) : fr_a am_A am_G α (am_adv β K) := fr_sm h (by decide)
theorem fr_ite {A G : List Nat} {c : Prop} [Decidable c] {β γ : fb_S} (h1 : fr_a A G α β) (h2 : fr_a A G α γ) : fr_a A G α (if c then β else γ) := by
  split
  · exact h1
  · exact h2
theorem am_do_fr : fr_a am_A am_G α (am_do π L α K f k) := by
  have s1 : ∀ (γ : fb_S) b, fr_a am_A am_G α γ → fr_a am_A am_G α (am_snd γ b) := fun γ b h => fr_tr h (mo_snd_185 b).2.2.2
  have e1 : ∀ β, fr_a am_A am_G α β → fr_a am_A am_G α (fb_sg (fb_sm β 55 (β.1 185) (24 * π.2 18 k)) 185 (β.1 185 + 1)) := fun β h => fr_sg (fr_sm h (by decide)) (by decide)
  have l0 : fr_a am_A am_G α (am_lv0 α (am_rd π (α.2 56) f (π.2 18 k))) := fr_sg (fr_sm (fr_sm (fr_rf _ _ _) (by decide)) (by decide)) (by decide)
  have fl : fr_a am_A am_G α (am_flt π L α k) := fr_sg (fr_sg (fr_rf _ _ _) (by decide)) (by decide)
  have en : fr_a am_A am_G α (am_ent π α f (π.2 18 k) (π.2 19 k)) := by
    unfold am_ent
    split
    · exact e1 _ am_wr_fr
    · exact e1 _ (fr_rf _ _ _)
  have le : fr_a am_A am_G α (am_lv π α (am_rd π (α.2 56) f (π.2 18 k))) := by
    unfold am_lv
    split
    · exact fr_sg l0 (by decide)
    · exact am_adv_fr (fr_sg (fr_tr l0 am_wr_fr) (by decide))
  unfold am_do
  exact fr_ite (am_adv_fr (fr_rf _ _ _)) (fr_ite (am_adv_fr (fr_sg (fr_rf _ _ _) (by decide))) (fr_ite (am_adv_fr (fr_sg (fr_rf _ _ _) (by decide))) (fr_ite (fr_ite (am_adv_fr am_wr_fr) fl) (fr_ite (fr_ite (am_adv_fr (fr_sm (fr_rf _ _ _) (by decide))) fl) (fr_ite en (fr_ite le (fr_ite (am_adv_fr (fr_ite (s1 _ _ (s1 _ _ (fr_rf _ _ _))) (s1 _ _ (fr_rf _ _ _)))) (fr_ite (am_adv_fr am_wr_fr) (am_adv_fr am_wr_fr)))))))))
theorem am_st_fr : fr_a am_A am_G α (am_st π L α) := fr_tr (fr_sg (fr_rf _ _ _) (by decide)) am_do_fr
/-- two states that look alike to the machine -/
def ra (α β : fb_S) : Prop := (∀ k ∈ am_G, β.1 k = α.1 k) ∧ ∀ a ∈ am_A, β.2 a = α.2 a
theorem ra_rf (α : fb_S) : ra α α := ⟨fun _ _ => rfl, fun _ _ => rfl⟩
theorem ra_tr {γ : fb_S} (h : ra α β) (h2 : ra β γ) : ra α γ := ⟨fun k hk => (h2.1 k hk).trans (h.1 k hk), fun a ha => (h2.2 a ha).trans (h.2 a ha)⟩
theorem ra_sg (h : ra α β) (j : Nat) (w : Int) : ra (fb_sg α j w) (fb_sg β j w) := ⟨fun k hk => by
  rw [fb_sg1, fb_sg1, h.1 k hk], h.2⟩
theorem ra_sm (h : ra α β) (a : Nat) (i w : Int) : ra (fb_sm α a i w) (fb_sm β a i w) := ⟨h.1, fun b hb => by
  funext j
  rw [fb_a2, fb_a2, h.2 b hb]⟩
theorem ra.d (h : ra α β) : β.2 56 = α.2 56 := h.2 56 (by decide)
theorem ra.s (h : ra α β) : β.2 55 = α.2 55 := h.2 55 (by decide)
theorem ra.n (h : ra α β) : β.1 185 = α.1 185 := h.1 185 (by decide)
theorem ra.o (h : ra α β) : β.1 186 = α.1 186 := h.1 186 (by decide)
theorem ra.c (h : ra α β) : β.1 184 = α.1 184 := h.1 184 (by decide)
theorem ra_adv (h : ra α β) : ra (am_adv α K) (am_adv β K) := by
  unfold am_adv
  rw [h.n]
  exact ra_sm h _ _ _
theorem ra_wr (h : ra α β) : ra (am_wr π α f v x) (am_wr π β f v x) := by
  unfold am_wr
  split
  · exact ra_sm (ra_sm h _ _ _) _ _ _
  · exact ra_sm h _ _ _
theorem ra_snd (h : ra α β) : ra (am_snd α x) (am_snd β x) := by
  unfold am_snd
  rw [h.o]
  split
  · exact ra_sg h _ _
  · exact ra_sg (ra_sm h _ _ _) _ _
theorem ra_dec (h : ra α β) (c : Bool) : ra (am_dec π L α K k c) (am_dec π L β K k c) := by
  unfold am_dec
  rw [h.c]
  exact ra_adv (ra_sg h _ _)
theorem ra_flt (h : ra α β) : ra (am_flt π L α k) (am_flt π L β k) := by
  unfold am_flt
  rw [h.c]
  exact ra_sg (ra_sg h _ _) _ _
theorem ra_ent {g a : Int} (h : ra α β) : ra (am_ent π α f g a) (am_ent π β f g a) := by
  have e1 : ∀ {γ δ : fb_S}, ra γ δ → ra (fb_sg (fb_sm γ 55 (γ.1 185) (24 * g)) 185 (γ.1 185 + 1)) (fb_sg (fb_sm δ 55 (δ.1 185) (24 * g)) 185 (δ.1 185 + 1)) := by
    intro γ δ h
    rw [h.n]
    exact ra_sg (ra_sm h _ _ _) _ _
  unfold am_ent
  rw [h.d]
  split
  · exact e1 (ra_wr h)
  · exact e1 h
theorem ra_lv (h : ra α β) : ra (am_lv π α x) (am_lv π β x) := by
  have l0 : ra (am_lv0 α x) (am_lv0 β x) := by
    unfold am_lv0
    rw [h.n]
    exact ra_sg (ra_sm (ra_sm h _ _ _) _ _ _) _ _
  unfold am_lv
  rw [h.n, h.s]
  split
  · exact ra_sg l0 _ _
  · have hw := ra_wr (π := π) (f := α.2 55 (α.1 185 - 1 - 1) / 24) (v := π.2 20 (am_xk π (α.2 55 (α.1 185 - 1 - 1)))) (x := x) l0
    show ra (am_adv (fb_sg (am_wr π (am_lv0 α x) _ _ x) 184 _) _) (am_adv (fb_sg (am_wr π (am_lv0 β x) _ _ x) 184 _) _)
    rw [hw.c]
    exact ra_adv (ra_sg hw _ _)
theorem ra_ite {c : Prop} [Decidable c] {α' β' : fb_S} (h1 : ra α β) (h2 : ra α' β') : ra (if c then α else α') (if c then β else β') := by
  split
  · exact h1
  · exact h2
theorem ra_do (h : ra α β) : ra (am_do π L α K f k) (am_do π L β K f k) := by
  unfold am_do
  rw [h.d]
  exact ra_ite (ra_adv h) (ra_ite (ra_dec h _) (ra_ite (ra_dec h _) (ra_ite (ra_ite (ra_adv (ra_wr h)) (ra_flt h)) (ra_ite (ra_ite (ra_adv (ra_sm h _ _ _)) (ra_flt h)) (ra_ite (ra_ent h) (ra_ite (ra_lv h) (ra_ite (ra_adv (ra_ite (ra_snd (ra_snd h)) (ra_snd h))) (ra_ite (ra_adv (ra_wr h)) (ra_adv (ra_wr h))))))))))
theorem ra_st (h : ra α β) : ra (am_st π L α) (am_st π L β) := by
  unfold am_st am_K
  rw [h.c, h.s, h.n]
  exact ra_do (ra_sg h _ _)
theorem ra_W (h : ra α β) (W : am_W π α) : am_W π β := by
  unfold am_W at *
  rw [h.n, h.s, h.d]
  exact W
/-- calls on the stack -/
theorem am_call (hP : iv_P π) (h : am_vK π K) (ho : π.2 17 (am_xk π K) = 13) (hg : iv_good π) : iv_c π (K / 24) (π.2 18 (am_xk π K)) := by
  have hv := am_vK_k hP h
  have hA := hP.1
  unfold iv_A at hA
  have hc := hg.2.2.1 _ hv.2.2.1.1 hv.2.2.1.2 ho
  exact ⟨⟨⟨by omega, by omega⟩, by omega, by omega⟩, am_xk π K, hv.2.2.1.1, hv.2.2.1.2, ho, hv.2.2.2.1, rfl⟩
theorem am_chain (hP : iv_P π) (hg : iv_good π) (W : am_W π α) : ∀ j : Nat, (j : Int) < α.1 185 → j ≤ rk (iv_c π) (α.2 55 j / 24) ∧ (α.2 55 j / 24 = 0 ∨ gr_R (iv_c π) 0 (α.2 55 j / 24))
  | 0, _ => ⟨Nat.zero_le _, Or.inl W.2.2.2.1⟩
  | j + 1, hj => by
    have ih := am_chain hP hg W j (by omega)
    obtain ⟨w1, w2, w3, w4, w5⟩ := W
    have h3 := w3 j (by omega) (by omega)
    have hc := am_call hP (w2 j (by omega) (by omega)) h3.1 hg
    rw [h3.2] at hc
    have hr := rk_lt iv_c_in hg.2.2.2.1 hc
    rw [show ((j + 1 : Nat) : Int) = (j : Int) + 1 by omega]
    refine ⟨by omega, Or.inr ?_⟩
    rcases ih.2 with e | e
    · rw [e] at hc; exact gr_one hc
    · exact gr_step e hc
/-- a CALL from the top: there is room, and it isn't function 0 -/
theorem am_room (hP : iv_P π) (hg : iv_good π) (W : am_W π α) (ho : π.2 17 (am_xk π (am_K α)) = 13) : α.1 185 ≤ 5 ∧ 0 < π.2 18 (am_xk π (am_K α)) ∧ iv_c π (am_K α / 24) (π.2 18 (am_xk π (am_K α))) := by
  have hvK : am_vK π (am_K α) := W.2.1 _ (by have := W.1; omega) (by omega)
  have hc := am_call hP hvK ho hg
  have hch := am_chain hP hg W (α.1 185 - 1).toNat (by have := W.1; omega)
  rw [show (((α.1 185 - 1).toNat : Nat) : Int) = α.1 185 - 1 by have := W.1; omega] at hch
  have hr := rk_lt iv_c_in hg.2.2.2.1 hc
  have h5 := rk_5 (c := iv_c π) hg.2.2.2.1 hc.1.2.1 hc.1.2.2
  have hR : gr_R (iv_c π) 0 (π.2 18 (am_xk π (am_K α))) := by
    rcases hch.2 with e | e
    · have hc' := hc
      unfold am_K at hc'
      rw [e] at hc'
      exact gr_one hc'
    · exact gr_step e hc
  refine ⟨?_, ?_, hc⟩
  · have h1 := hch.1
    unfold am_K at hr h5
    omega
  · by_cases e : π.2 18 (am_xk π (am_K α)) = 0
    · rw [e] at hR
      exact absurd ⟨0, by omega, by omega, hR⟩ hg.2.2.2.1
    · have := hc.1.2.1
      omega
end AMW
