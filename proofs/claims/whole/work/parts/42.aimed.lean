/-- the reference's targets -/
theorem cm_aimed {E : fb_E} {σ : fb_S} {Q : Int → fb_S → Prop} (hP : iv_P σ) (h1 : iv_ta σ → ∀ τ, fr_a [51] [] σ τ → (∀ f g, 0 ≤ f → f < 6 → 0 ≤ g → g < 24 → iv_01 (iv_gp σ (σ.1 42) f g) (τ.2 51 (24 * f + g))) → Q 1 τ) (h0 : ¬ iv_ta σ → ∀ τ, fr_a [51] [] σ τ → Q 0 τ) : fb_V E fb_Mo_aimed 0 [.inr 5, .inr 999, .inr 999] [] σ Q := by
  have hok : fr_ok [51] [] := by unfold fr_ok; simp
  obtain ⟨hA, hB, hC, hD, hG, hF, hE⟩ := id hP
  unfold iv_A at hA
  unfold iv_D at hD
  apply Mo_aimed_b0
  have clr := lp_st (P := fun v τ => fb_V E fb_Mo_aimed 2 [.inr 5, .inl v, .inr 999] [] τ Q) (I := fun v τ => fr_a [51] [] σ τ ∧ ∀ j, 0 ≤ j → j < v → τ.2 51 j = 0) (N := 144) ?_ ?_
  · exact clr 0 σ (by omega) (by omega) ⟨fr_rf _ _ _, fun j j0 j1 => by omega⟩
  · intro v τ v0 v1 hI ih
    apply Mo_aimed_b2
    refine ⟨by omega, fun h => by omega, fun _ => ⟨by omega, ih _ ⟨fr_sm hI.1 (by decide), fun j j0 j1 => ?_⟩⟩⟩
    rw [fb_at]
    split
    · rfl
    · exact hI.2 j j0 (by omega)
  · intro τ hI
    apply Mo_aimed_b2
    refine ⟨by omega, fun _ => ?_, fun h => by omega⟩
    have outer := lp_st (P := fun v τ => fb_V E fb_Mo_aimed 24 [.inr 5, .inl v, .inr 999] [] τ Q) (I := fun v τ => ∃ n, (v < σ.1 41 → n = σ.2 14 v) ∧ (v = σ.1 41 → n = σ.1 42) ∧ fr_a [51] [] σ τ ∧ (∀ k, 0 ≤ k → k < n → iv_tk σ k) ∧ ∀ f g, 0 ≤ f → f < 6 → 0 ≤ g → g < 24 → iv_01 (iv_gp σ n f g) (τ.2 51 (24 * f + g))) (N := σ.1 41) ?_ ?_
    · refine outer 0 τ (by omega) (by omega) ⟨0, fun q => (hD.2.1 q).symm, fun q => (hD.1 q.symm).symm, hI.1, fun k k0 k1 => by omega, fun f g f0 f6 g0 g6 => ⟨fun ⟨k, k0, k1, _⟩ => by omega, fun _ => hI.2 _ (by omega) (by omega)⟩⟩
    · intro f ρ f0 f1 hJ ih
      obtain ⟨n, n1, -, hfr, hck, hcp⟩ := hJ
      have hn := n1 f1
      subst hn
      have e160 : ρ.1 160 = σ.1 41 := (hfr.1 160 (by simp)).trans hA.2.2.1
      apply Mo_aimed_b24
      rw [e160]
      refine ⟨by omega, by omega, fun h => by omega, fun _ => ?_⟩
      have hb := hB f f0 (by omega)
      have hg := hG f f0 f1
      have inner := lp_st (P := fun i τ => fb_V E fb_Mo_aimed 37 [.inr 5, .inl f, .inl (24 * f + i)] [] τ Q) (I := fun i τ => fr_a [51] [] σ τ ∧ (∀ k, 0 ≤ k → k < σ.2 14 f + i → iv_tk σ k) ∧ ∀ f' g, 0 ≤ f' → f' < 6 → 0 ≤ g → g < 24 → iv_01 (iv_gp σ (σ.2 14 f + i) f' g) (τ.2 51 (24 * f' + g))) (N := σ.2 15 f) ?_ ?_
      · have := inner 0 ρ (by omega) (by omega) ⟨hfr, by rw [Int.add_zero]; exact hck, by rw [Int.add_zero]; exact hcp⟩
        rw [Int.add_zero] at this
        exact this
      · intro i ρ2 i0 i1 hK ih2
        have hk := iv_fk hP f0 f1 i0 i1
        have hkk := iv_k hP hk.1.1 hk.1.2
        have ho := hkk.2.2.2.1.1
        have ha := hkk.2.2.2.1.2.1
        have e41 := fr_p2 hok hK.1 (a := 41) (by omega)
        have e43 := fr_p2 hok hK.1 (a := 43) (by omega)
        have htg := iv_tg_in hP hk.1.1 hk.1.2
        have hP2 := fr_P hok hK.1 hP
        have e15 := fr_p2 hok hK.1 (a := 15) (by omega)
        have e14 := fr_p2 hok hK.1 (a := 14) (by omega)
        have e41s : ρ2.1 41 = σ.1 41 := hK.1.1 41 (by simp)
        have etg := fr_tg hok hK.1 (σ.2 14 f + i)
        have goal : ∀ (R : Int → fb_S → Prop), R (iv_tg σ (σ.2 14 f + i)) ρ2 → fb_V E fb_Mo_goal 0 [.inr 5, .inl (24 * f + i)] [] ρ2 R := by
          intro R hR
          apply cm_goal hP2 f0 (by omega) i0 (by rw [e15]; exact i1)
          rw [e14, etg]; exact hR
        have nxt : iv_tk σ (σ.2 14 f + i) → ∀ τ', fr_a [51] [] σ τ' → (∀ f' g, 0 ≤ f' → f' < 6 → 0 ≤ g → g < 24 → iv_01 (iv_gp σ (σ.2 14 f + i + 1) f' g) (τ'.2 51 (24 * f' + g))) → fb_V E fb_Mo_aimed 37 [.inr 5, .inl f, .inl (24 * f + i + 1)] [] τ' Q := by
          intro hc τ' hfr' hcp'
          rw [show 24 * f + i + 1 = 24 * f + (i + 1) by omega]
          refine ih2 τ' ⟨hfr', fun k k0 k1 => ?_, ?_⟩
          · by_cases e : k = σ.2 14 f + i
            · rw [e]; exact hc
            · exact hK.2.1 k k0 (by omega)
          · rw [show σ.2 14 f + (i + 1) = σ.2 14 f + i + 1 by omega]; exact hcp'
        have bad : iv_isT (σ.2 17 (σ.2 14 f + i)) → ¬ (0 ≤ iv_tg σ (σ.2 14 f + i) ∧ iv_tg σ (σ.2 14 f + i) < σ.2 15 f) → Q 0 ρ2 := by
          intro hT hn
          refine h0 (fun q => hn ?_) _ hK.1
          have := q _ hk.1.1 hk.1.2 hT
          rw [hk.2.1] at this
          exact this
        have setT : iv_isT (σ.2 17 (σ.2 14 f + i)) → 0 ≤ iv_tg σ (σ.2 14 f + i) → iv_tg σ (σ.2 14 f + i) < σ.2 15 f → fb_V E fb_Mo_aimed 37 [.inr 5, .inl f, .inl (24 * f + i + 1)] [] (fb_sm ρ2 51 (24 * f + iv_tg σ (σ.2 14 f + i)) 1) Q := by
          intro hT g1 g2
          refine nxt (fun _ => by rw [hk.2.1]; exact ⟨g1, g2⟩) _ (fr_sm hK.1 (by decide)) (fun f' g f0' f6' g0 g6 => ?_)
          refine iv_01_iff (iv_01_or (hK.2.2 f' g f0' f6' g0 g6) (q := f = f' ∧ iv_tg σ (σ.2 14 f + i) = g) (y := (fb_sm ρ2 51 (24 * f + iv_tg σ (σ.2 14 f + i)) 1).2 51 (24 * f' + g)) (fun q => ?_) (fun q => ?_)) ((iv_gp_s hk.1.1).trans (or_congr Iff.rfl ⟨fun z => ⟨hk.2.1 ▸ z.2.1, z.2.2⟩, fun z => ⟨hT, hk.2.1.trans z.1, z.2⟩⟩))
          · rw [fb_at, if_pos (by omega)]
          · rw [fb_at, if_neg (by omega)]
        have all : iv_isT (σ.2 17 (σ.2 14 f + i)) → fb_V E fb_Mo_goal 0 [.inr 5, .inl (24 * f + i)] [] ρ2 (fun r6 s7 => (-2147483648 ≤ r6 ∧ r6 < 2147483648) ∧ ((r6 < 0 → Q 0 s7) ∧ (¬ r6 < 0 → fb_V E fb_Mo_goal 0 [.inr 5, .inl (24 * f + i)] [] s7 (fun r9 s10 => (-2147483648 ≤ r9 ∧ r9 < 2147483648) ∧ ((-2147483648 ≤ (s10.2 41 f) ∧ (s10.2 41 f) < 2147483648) ∧ ((r9 < (s10.2 41 f) → fb_V E fb_Mo_goal 0 [.inr 5, .inl (24 * f + i)] [] s10 (fun r13 s14 => (0 ≤ ((24 * f) + r13) ∧ ((24 * f) + r13) < 144) ∧ (fb_V E fb_Mo_aimed 37 [.inr 5, .inl f, .inl ((24 * f + i) + 1)] [] (fb_sm s14 51 ((24 * f) + r13) 1) Q))) ∧ (¬ r9 < (s10.2 41 f) → Q 0 s10))))))) := by
          intro hT
          refine goal _ ⟨htg, fun h2 => bad hT (by omega), fun h2 => goal _ ⟨htg, ?_⟩⟩
          rw [e41, hb.2.2.2.1]
          exact ⟨by omega, fun h3 => goal _ ⟨by omega, setT hT (by omega) h3⟩, fun h3 => bad hT (by omega)⟩
        apply Mo_aimed_b37
        rw [e43, hk.2.2.1]
        refine ⟨by omega, by omega, by rw [e41, hb.2.2.2.1]; omega, fun h => by rw [e41, hb.2.2.2.1] at h; omega, fun _ => ⟨by omega, by omega, fun hc => all (Or.inl hc), fun hc => ?_⟩⟩
        apply cm_branches _ ho
        · intro hbr
          exact ⟨by omega, fun _ => all (Or.inr hbr), fun h => by omega⟩
        · intro hbr
          refine ⟨by omega, fun h => absurd rfl h, fun _ => nxt (fun q => absurd q (by unfold iv_isT; omega)) _ hK.1 (fun f' g f0' f6' g0 g6 => ?_)⟩
          exact iv_01_iff (hK.2.2 f' g f0' f6' g0 g6) ((iv_gp_s hk.1.1).trans ⟨fun q => q.resolve_right (fun z => by have := z.1; unfold iv_isT at this; omega), Or.inl⟩)
      · intro ρ2 hK
        have e41 := fr_p2 hok hK.1 (a := 41) (by omega)
        apply Mo_aimed_b37
        rw [e41, hb.2.2.2.1]
        refine ⟨by omega, by omega, by omega, fun _ => ih _ ⟨σ.2 14 f + σ.2 15 f, fun q => ?_, fun q => ?_, hK⟩, fun h => by omega⟩
        · exact (hD.2.2.1 f f0 q).symm
        · have := hD.2.2.2 (by omega)
          rw [show σ.1 41 - 1 = f by omega] at this
          exact this.symm
    · intro ρ hJ
      obtain ⟨n, -, n2, hfr, hck, hcp⟩ := hJ
      have hn := n2 rfl
      subst hn
      have e160 : ρ.1 160 = σ.1 41 := (hfr.1 160 (by simp)).trans hA.2.2.1
      apply Mo_aimed_b24
      rw [e160]
      exact ⟨by omega, by omega, fun _ => h1 hck ρ hfr hcp, fun h => by omega⟩
