/-! recursion, in the class -/
theorem iv_01_of {p q : Prop} {x : Int} (h : iv_01 p x) (e : p ↔ q) : iv_01 q x := iv_01_iff h e.symm
theorem iv_01_one {p : Prop} {x : Int} (h : iv_01 p x) : x = 1 ↔ p := by
  constructor
  · intro hx
    by_cases hp : p
    · exact hp
    · have := h.2 hp; omega
  · exact h.1
theorem iv_01_zero {p : Prop} {x : Int} (h : iv_01 p x) : x = 0 ↔ ¬ p := by
  constructor
  · intro hx hp
    have := h.1 hp; omega
  · exact h.2
/-- one round over a matrix, as far as (f, g) -/
def gr_at (R : Int → Int → Prop) (b f g : Int) (f' g' : Int) : Prop := R f' g' ∨ ((f' < f ∨ (f' = f ∧ g' < g)) ∧ R f' b ∧ R b g')
theorem gr_at_col {R : Int → Int → Prop} {b f g x : Int} : gr_at R b f g x b ↔ R x b := ⟨fun h => h.elim id (fun h => h.2.1), Or.inl⟩
theorem gr_at_row {R : Int → Int → Prop} {b f g x : Int} : gr_at R b f g b x ↔ R b x := ⟨fun h => h.elim id (fun h => h.2.2), Or.inl⟩
theorem gr_at_here {R : Int → Int → Prop} {b f g : Int} : gr_at R b f g f g ↔ R f g := ⟨fun h => h.elim id (fun h => by omega), Or.inl⟩
theorem gr_at_next {R : Int → Int → Prop} {b f g f' g' : Int} (hne : ¬ (f' = f ∧ g' = g)) : gr_at R b f (g + 1) f' g' ↔ gr_at R b f g f' g' := by
  unfold gr_at
  constructor
  · rintro (h | ⟨h, h2⟩)
    · exact Or.inl h
    · exact Or.inr ⟨by omega, h2⟩
  · rintro (h | ⟨h, h2⟩)
    · exact Or.inl h
    · exact Or.inr ⟨by omega, h2⟩
theorem gr_at_new {R : Int → Int → Prop} {b f g : Int} : gr_at R b f (g + 1) f g ↔ R f g ∨ (R f b ∧ R b g) := by
  unfold gr_at
  constructor
  · rintro (h | ⟨h, h2⟩)
    · exact Or.inl h
    · exact Or.inr h2
  · rintro (h | h2)
    · exact Or.inl h
    · exact Or.inr ⟨by omega, h2⟩
def gr_mat (R : Int → Int → Prop) (a : Nat) (τ : fb_S) : Prop := ∀ f g, 0 ≤ f → f < 6 → 0 ≤ g → g < 6 → iv_01 (R f g) (τ.2 a (6 * f + g))
theorem ct_closeCalls {E : fb_E} {σ : fb_S} {Q : Int → fb_S → Prop} {c : Int → Int → Prop} (hc : gr_mat c 21 σ) (h : ∀ τ, fr_a [22] [] σ τ → gr_mat (gr_n c 6) 22 τ → Q 0 τ) : fb_V E fb_Fr_closeCalls 0 [.inr 2, .inr 999, .inr 999, .inr 999, .inr 999] [] σ Q := by
  apply Fr_closeCalls_b0
  have cpy := lp_st (P := fun v τ => fb_V E fb_Fr_closeCalls 2 [.inr 2, .inl v, .inr 999, .inr 999, .inr 999] [] τ Q) (I := fun v τ => fr_a [22] [] σ τ ∧ ∀ j, 0 ≤ j → j < v → τ.2 22 j = σ.2 21 j) (N := 36) ?_ ?_
  · exact cpy 0 σ (by omega) (by omega) ⟨fr_rf _ _ _, fun j j0 j1 => by omega⟩
  · intro v τ v0 v1 hI ih
    have e21 : τ.2 21 = σ.2 21 := hI.1.2 21 (by simp)
    have h01 := iv_01_v (hc (v / 6) (v % 6) (by omega) (by omega) (by omega) (by omega))
    rw [show 6 * (v / 6) + v % 6 = v by omega] at h01
    apply Fr_closeCalls_b2
    rw [e21]
    refine ⟨by omega, fun h => by omega, fun _ => ⟨by omega, h01, ih _ ⟨fr_sm hI.1 (by decide), fun j j0 j1 => ?_⟩⟩⟩
    rw [fb_at]
    split
    · next e => rw [e]
    · exact hI.2 j j0 (by omega)
  · intro τ hI
    apply Fr_closeCalls_b2
    refine ⟨by omega, fun _ => ?_, fun h => by omega⟩
    have big := lp_st (P := fun b τ => fb_V E fb_Fr_closeCalls 31 [.inr 2, .inl b, .inr 999, .inr 999, .inr 999] [] τ Q) (I := fun b τ => fr_a [22] [] σ τ ∧ gr_mat (gr_n c b.toNat) 22 τ) (N := 6) ?_ ?_
    · refine big 0 τ (by omega) (by omega) ⟨hI.1, fun f g f0 f6 g0 g6 => ?_⟩
      rw [hI.2 _ (by omega) (by omega)]
      exact hc f g f0 f6 g0 g6
    · intro b τ b0 b1 hJ ih
      apply Fr_closeCalls_b31
      refine ⟨by omega, fun h => by omega, fun _ => ?_⟩
      generalize hR : gr_n c b.toNat = R at hJ
      have mid := lp_st (P := fun f τ => fb_V E fb_Fr_closeCalls 39 [.inr 2, .inl b, .inl f, .inr 999, .inr 999] [] τ Q) (I := fun f τ => fr_a [22] [] σ τ ∧ gr_mat (gr_at R b f 0) 22 τ) (N := 6) ?_ ?_
      · refine mid 0 τ (by omega) (by omega) ⟨hJ.1, fun f g f0 f6 g0 g6 => iv_01_of (hJ.2 f g f0 f6 g0 g6) ?_⟩
        unfold gr_at
        exact ⟨Or.inl, fun q => q.elim id (fun z => by omega)⟩
      · intro f τ f0 f1 hK ih2
        apply Fr_closeCalls_b39
        refine ⟨by omega, fun h => by omega, fun _ => ?_⟩
        have inn := lp_st (P := fun g τ => fb_V E fb_Fr_closeCalls 47 [.inr 2, .inl b, .inl f, .inl g, .inr 999] [] τ Q) (I := fun g τ => fr_a [22] [] σ τ ∧ gr_mat (gr_at R b f g) 22 τ) (N := 6) ?_ ?_
        · exact inn 0 τ (by omega) (by omega) hK
        · intro g τ g0 g1 hL ih3
          have vfb := iv_01_of (hL.2 f b f0 f1 b0 b1) gr_at_col
          have vbg := iv_01_of (hL.2 b g b0 b1 g0 g1) gr_at_row
          have vfg := iv_01_of (hL.2 f g f0 f1 g0 g1) gr_at_here
          have w1 := iv_01_v vfb
          have w2 := iv_01_v vbg
          have w3 := iv_01_v vfg
          have z1 := iv_01_zero vfb
          have z2 := iv_01_zero vbg
          have z3 := iv_01_zero vfg
          have put : ∀ x : Int, iv_01 (R f g ∨ (R f b ∧ R b g)) x → fb_V E fb_Fr_closeCalls 47 [.inr 2, .inl b, .inl f, .inl (g + 1), .inr 999] [] (fb_sm τ 22 (6 * f + g) x) Q := by
            intro x hx
            refine ih3 _ ⟨fr_sm hL.1 (by decide), fun f' g' f0' f6' g0' g6' => ?_⟩
            rw [fb_at]
            by_cases e : f' = f ∧ g' = g
            · rw [if_pos (by omega), e.1, e.2]
              exact iv_01_of hx gr_at_new.symm
            · rw [if_neg (by omega)]
              exact iv_01_of (hL.2 f' g' f0' f6' g0' g6') (gr_at_next e).symm
          have one : (R f g ∨ (R f b ∧ R b g)) → iv_01 (R f g ∨ (R f b ∧ R b g)) 1 := fun q => ⟨fun _ => rfl, fun q2 => absurd q q2⟩
          have zer : ¬ (R f g ∨ (R f b ∧ R b g)) → iv_01 (R f g ∨ (R f b ∧ R b g)) 0 := fun q => ⟨fun q2 => absurd q2 q, fun _ => rfl⟩
          apply Fr_closeCalls_b47
          refine ⟨by omega, fun h => by omega, fun _ => ⟨by omega, by omega, fun a1 => ⟨by omega, by omega, fun a3 => put 1 (one ?_), fun a3 => put 0 (zer ?_)⟩, fun a1 => ⟨by omega, by omega, fun a2 => ⟨by omega, by omega, fun a3 => put 1 (one ?_), fun a3 => put 0 (zer ?_)⟩, fun a2 => ⟨by omega, by omega, fun a3 => put 1 (one ?_), fun a3 => put 1 (one ?_)⟩⟩⟩⟩
          · exact Or.inl ((iv_01_one vfg).mp (by omega))
          · rintro (q | q)
            · exact z3.mp a3 q
            · exact z1.mp a1 q.1
          · exact Or.inl ((iv_01_one vfg).mp (by omega))
          · rintro (q | q)
            · exact z3.mp a3 q
            · exact z2.mp a2 q.2
          · exact Or.inl ((iv_01_one vfg).mp (by omega))
          · exact Or.inr ⟨(iv_01_one vfb).mp (by omega), (iv_01_one vbg).mp (by omega)⟩
        · intro τ hL
          apply Fr_closeCalls_b47
          refine ⟨by omega, fun _ => ih2 _ ⟨hL.1, fun f' g' f0' f6' g0' g6' => iv_01_of (hL.2 f' g' f0' f6' g0' g6') ?_⟩, fun h => by omega⟩
          unfold gr_at
          constructor
          · rintro (q | ⟨q, q2⟩)
            · exact Or.inl q
            · exact Or.inr ⟨by omega, q2⟩
          · rintro (q | ⟨q, q2⟩)
            · exact Or.inl q
            · exact Or.inr ⟨by omega, q2⟩
      · intro τ hK
        apply Fr_closeCalls_b39
        refine ⟨by omega, fun _ => ih _ ⟨hK.1, fun f' g' f0' f6' g0' g6' => iv_01_of (hK.2 f' g' f0' f6' g0' g6') ?_⟩, fun h => by omega⟩
        have e : (b + 1).toNat = b.toNat + 1 := by omega
        rw [e]
        show _ ↔ gr_w (gr_n c b.toNat) (b.toNat : Int) f' g'
        rw [hR, show ((b.toNat : Nat) : Int) = b by omega]
        unfold gr_at gr_w
        constructor
        · rintro (q | ⟨q, q2⟩)
          · exact Or.inl q
          · exact Or.inr q2
        · rintro (q | q2)
          · exact Or.inl q
          · exact Or.inr ⟨by omega, q2⟩
    · intro τ hJ
      apply Fr_closeCalls_b31
      exact ⟨by omega, fun _ => h τ hJ.1 hJ.2, fun h => by omega⟩
theorem ct_hasRecursion {E : fb_E} {σ : fb_S} {Q : Int → fb_S → Prop} {c : Int → Int → Prop} (hc : gr_mat c 21 σ) (h1 : (∃ f, 0 ≤ f ∧ f < 6 ∧ gr_n c 6 f f) → ∀ τ, fr_a [22] [] σ τ → Q 1 τ) (h0 : (¬ ∃ f, 0 ≤ f ∧ f < 6 ∧ gr_n c 6 f f) → ∀ τ, fr_a [22] [] σ τ → Q 0 τ) : fb_V E fb_Fr_hasRecursion 0 [.inr 2, .inr 999] [] σ Q := by
  apply Fr_hasRecursion_b0
  apply ct_closeCalls hc
  intro τ hfr hm
  have lp := lp_up (P := fun v => (∀ f, 0 ≤ f → f < v → ¬ gr_n c 6 f f) → fb_V E fb_Fr_hasRecursion 6 [.inr 2, .inl v] [] τ Q) (N := 6) ?_ ?_
  · exact lp 0 (by omega) (by omega) (fun f f0 f1 => by omega)
  · intro v v0 v1 ih hall
    have hv := hm v v v0 v1 v0 v1
    have w := iv_01_v hv
    apply Fr_hasRecursion_b6
    refine ⟨by omega, fun h => by omega, fun _ => ⟨by omega, by omega, fun q => ih (fun f f0 f1 => ?_), fun q => h1 ⟨v, v0, v1, (iv_01_one hv).mp (by omega)⟩ τ hfr⟩⟩
    by_cases e : f = v
    · rw [e]; exact (iv_01_zero hv).mp q
    · exact hall f f0 (by omega)
  · intro hall
    apply Fr_hasRecursion_b6
    exact ⟨by omega, fun _ => h0 (fun ⟨f, f0, f1, q⟩ => hall f f0 f1 q) τ hfr, fun h => by omega⟩
