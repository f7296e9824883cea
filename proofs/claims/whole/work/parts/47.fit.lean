/-! fit, places; the reference's frames -/
theorem ct_fit {E : fb_E} {σ : fb_S} {Q : Int → fb_S → Prop} (hP : iv_P σ) (hb : ∀ x, 0 ≤ x → x < 6 → 0 ≤ σ.2 23 x ∧ σ.2 23 x ≤ 20000) (h1 : (∀ f, 0 ≤ f → f < σ.1 41 → σ.2 23 f + iv_fs σ f ≤ 120) → Q 1 σ) (h0 : ¬ (∀ f, 0 ≤ f → f < σ.1 41 → σ.2 23 f + iv_fs σ f ≤ 120) → Q 0 σ) : fb_V E fb_Fr_fit 0 [.inr 2, .inr 999] [] σ Q := by
  have hA := hP.1
  unfold iv_A at hA
  apply Fr_fit_b0
  have lp := lp_up (P := fun v => (∀ f, 0 ≤ f → f < v → σ.2 23 f + iv_fs σ f ≤ 120) → fb_V E fb_Fr_fit 2 [.inr 2, .inl v] [] σ Q) (N := σ.1 41) ?_ ?_
  · exact lp 0 (by omega) (by omega) (fun f f0 f1 => by omega)
  · intro v v0 v1 ih hall
    have hs := iv_fs_in hP v0 (show v < 6 by omega)
    have hx := hb v v0 (by omega)
    apply Fr_fit_b2
    refine ⟨by omega, by omega, fun h => by omega, fun _ => ?_⟩
    apply ct_endOf hP v v0 (by omega)
    refine ⟨by omega, fun q => ih (fun f f0 f1 => ?_), fun q => h0 (fun z => by have := z v v0 v1; omega)⟩
    by_cases e : f = v
    · rw [e]; exact q
    · exact hall f f0 (by omega)
  · intro hall
    apply Fr_fit_b2
    exact ⟨by omega, by omega, fun _ => h1 hall, fun h => by omega⟩
abbrev iv_rows : List Nat := [25, 26, 27, 28, 29, 30]
theorem iv_row_in {f : Int} (f0 : 0 ≤ f) (f6 : f < 6) : 25 + f.toNat ∈ iv_rows := by
  have key : ∀ n : Nat, n < 6 → 25 + n ∈ iv_rows := by decide
  exact key f.toNat (by omega)
theorem ct_placeVariables {E : fb_E} {σ : fb_S} {Q : Int → fb_S → Prop} (hP : iv_P σ) (h : ∀ τ, fr_a iv_rows [] σ τ → (∀ f v, 0 ≤ f → f < σ.1 41 → 0 ≤ v → v < σ.2 13 f → τ.2 (25 + f.toNat) v = σ.2 23 f + iv_ps σ f v.toNat) → Q 0 τ) : fb_V E fb_Fr_placeVariables 0 [.inr 2, .inr 999, .inr 999, .inr 999] [] σ Q := by
  have hok : fr_ok iv_rows [] := by unfold fr_ok; simp
  have hA := hP.1
  unfold iv_A at hA
  apply Fr_placeVariables_b0
  have outer := lp_st (P := fun f τ => fb_V E fb_Fr_placeVariables 2 [.inr 2, .inl f, .inr 999, .inr 999] [] τ Q) (I := fun f τ => fr_a iv_rows [] σ τ ∧ ∀ g v, 0 ≤ g → g < f → 0 ≤ v → v < σ.2 13 g → τ.2 (25 + g.toNat) v = σ.2 23 g + iv_ps σ g v.toNat) (N := σ.1 41) ?_ ?_
  · exact outer 0 σ (by omega) (by omega) ⟨fr_rf _ _ _, fun g v g0 g1 => by omega⟩
  · intro f τ f0 f1 hI ih
    have e41 : τ.1 41 = σ.1 41 := hI.1.1 41 (by simp)
    have e23 : τ.2 23 = σ.2 23 := hI.1.2 23 (by decide)
    have hb := hP.2.1 f f0 (by omega)
    apply Fr_placeVariables_b2
    rw [e41, e23]
    refine ⟨by omega, by omega, fun h => by omega, fun _ => ⟨by omega, ?_⟩⟩
    have inner := lp_st (P := fun v τ => fb_V E fb_Fr_placeVariables 22 [.inr 2, .inl f, .inl (σ.2 23 f + iv_ps σ f v.toNat), .inl v] [] τ Q) (I := fun v τ => fr_a iv_rows [] σ τ ∧ (∀ g w, 0 ≤ g → g < f → 0 ≤ w → w < σ.2 13 g → τ.2 (25 + g.toNat) w = σ.2 23 g + iv_ps σ g w.toNat) ∧ ∀ w, 0 ≤ w → w < v → τ.2 (25 + f.toNat) w = σ.2 23 f + iv_ps σ f w.toNat) (N := σ.2 13 f) ?_ ?_
    · have := inner 0 τ (by omega) (by omega) ⟨hI.1, hI.2, fun w w0 w1 => by omega⟩
      simp only [iv_ps, Int.toNat_zero, Int.add_zero] at this
      exact this
    · intro v τ v0 v1 hJ ih2
      have e13 := fr_p2 hok hJ.1 (a := 13) (by omega)
      have e7 := fr_p2 hok hJ.1 (a := 7 + f.toNat) (by omega)
      apply Fr_placeVariables_b22
      rw [e13, fb_ne (show 7 + f.toNat ≠ 25 + f.toNat by omega), e7]
      refine ⟨by omega, by omega, by omega, fun h => by omega, fun _ => ⟨by omega, ?_⟩⟩
      rw [Int.add_assoc, ← iv_ps_s v0]
      refine ih2 _ ⟨fr_sm hJ.1 (iv_row_in f0 (by omega)), fun g w g0 g1 w0 w1 => ?_, fun w w0 w1 => ?_⟩
      · rw [fb_ne (by omega)]
        exact hJ.2.1 g w g0 g1 w0 w1
      · rw [fb_at]
        split
        · next e => rw [e]
        · exact hJ.2.2 w w0 (by omega)
    · intro τ hJ
      have e13 := fr_p2 hok hJ.1 (a := 13) (by omega)
      apply Fr_placeVariables_b22
      rw [e13]
      refine ⟨by omega, by omega, by omega, fun _ => ih _ ⟨hJ.1, fun g w g0 g1 w0 w1 => ?_⟩, fun h => by omega⟩
      by_cases e : g = f
      · subst e; exact hJ.2.2 w w0 w1
      · exact hJ.2.1 g w g0 (by omega) w0 w1
  · intro τ hI
    have e41 : τ.1 41 = σ.1 41 := hI.1.1 41 (by simp)
    apply Fr_placeVariables_b2
    rw [e41]
    exact ⟨by omega, by omega, fun _ => h τ hI.1 hI.2, fun h => by omega⟩
theorem cm_framed {E : fb_E} {σ : fb_S} {Q : Int → fb_S → Prop} (hP : iv_P σ) (hC01 : ∀ k, 0 ≤ k → k < 36 → σ.2 48 k = 0 ∨ σ.2 48 k = 1)
    (h1 : (∀ f, 0 ≤ f → f < σ.1 41 → bs_n (σ.2 48) (iv_fs σ) 216 f + iv_fs σ f ≤ 120) → ∀ τ, fr_a [47] [] σ τ → (∀ x, 0 ≤ x → x < 6 → τ.2 47 x = bs_n (σ.2 48) (iv_fs σ) 216 x) → Q 1 τ)
    (h0 : ¬ (∀ f, 0 ≤ f → f < σ.1 41 → bs_n (σ.2 48) (iv_fs σ) 216 f + iv_fs σ f ≤ 120) → ∀ τ, fr_a [47] [] σ τ → Q 0 τ) : fb_V E fb_Mo_framed 0 [.inr 5, .inr 999, .inr 999, .inr 999, .inr 999] [] σ Q := by
  have hok : fr_ok [47] [] := by unfold fr_ok; simp
  have hA := hP.1
  unfold iv_A at hA
  have hF : ∀ f, 0 ≤ f → f < 6 → 0 ≤ iv_fs σ f ∧ iv_fs σ f ≤ 48 := fun f f0 f6 => iv_fs_in hP f0 f6
  have hB := bs_n_in (C := σ.2 48) hF
  apply Mo_framed_b0
  have clr := lp_st (P := fun v τ => fb_V E fb_Mo_framed 2 [.inr 5, .inl v, .inr 999, .inr 999, .inr 999] [] τ Q) (I := fun v τ => fr_a [47] [] σ τ ∧ ∀ j, 0 ≤ j → j < v → τ.2 47 j = 0) (N := 6) ?_ ?_
  · exact clr 0 σ (by omega) (by omega) ⟨fr_rf _ _ _, fun j j0 j1 => by omega⟩
  · intro v τ v0 v1 hI ih
    apply Mo_framed_b2
    refine ⟨by omega, fun h => by omega, fun _ => ⟨by omega, ih _ ⟨fr_sm hI.1 (by decide), fun j j0 j1 => ?_⟩⟩⟩
    rw [fb_at]
    split
    · rfl
    · exact hI.2 j j0 (by omega)
  · intro τ hI
    apply Mo_framed_b2
    refine ⟨by omega, fun _ => ?_, fun h => by omega⟩
    have rnd := lp_st (P := fun r τ => fb_V E fb_Mo_framed 23 [.inr 5, .inl r, .inr 999, .inr 999, .inr 999] [] τ Q) (I := fun r τ => fr_a [47] [] σ τ ∧ ∀ x, 0 ≤ x → x < 6 → τ.2 47 x = bs_n (σ.2 48) (iv_fs σ) (36 * r).toNat x) (N := 6) ?_ ?_
    · exact rnd 0 τ (by omega) (by omega) ⟨hI.1, fun x x0 x6 => by rw [hI.2 x x0 x6]; rfl⟩
    · intro r τ r0 r1 hJ ih
      apply Mo_framed_b23
      refine ⟨by omega, fun h => by omega, fun _ => ?_⟩
      have lp := lp_st (P := fun k τ => fb_V E fb_Mo_framed 31 [.inr 5, .inl r, .inl k, .inr 999, .inr 999] [] τ Q) (I := fun k τ => fr_a [47] [] σ τ ∧ ∀ x, 0 ≤ x → x < 6 → τ.2 47 x = bs_n (σ.2 48) (iv_fs σ) (36 * r + k).toNat x) (N := 36) ?_ ?_
      · exact lp 0 τ (by omega) (by omega) ⟨hJ.1, by rw [Int.add_zero]; exact hJ.2⟩
      · intro k τ k0 k1 hK ih2
        have hP2 := fr_P hok hK.1 hP
        have e48 : τ.2 48 = σ.2 48 := hK.1.2 48 (by simp)
        have efs := iv_fs_fr hok hK.1 (f := k / 6) (by omega)
        have h01 := hC01 k k0 k1
        have en : (36 * r + (k + 1)).toNat = (36 * r + k).toNat + 1 := by omega
        have em : (((36 * r + k).toNat % 36 : Nat) : Int) = 6 * (k / 6) + k % 6 := by omega
        have vf := hK.2 (k / 6) (by omega) (by omega)
        have vg := hK.2 (k % 6) (by omega) (by omega)
        have bf := hB (36 * r + k).toNat (k / 6)
        have bg := hB (36 * r + k).toNat (k % 6)
        have hff := hF (k / 6) (by omega) (by omega)
        have step : ∀ x, bs_n (σ.2 48) (iv_fs σ) (36 * r + (k + 1)).toNat x = if (¬ σ.2 48 k = 0 ∧ 0 < k % 6 ∧ bs_n (σ.2 48) (iv_fs σ) (36 * r + k).toNat (k % 6) < bs_n (σ.2 48) (iv_fs σ) (36 * r + k).toNat (k / 6) + iv_fs σ (k / 6)) ∧ x = k % 6 then bs_n (σ.2 48) (iv_fs σ) (36 * r + k).toNat (k / 6) + iv_fs σ (k / 6) else bs_n (σ.2 48) (iv_fs σ) (36 * r + k).toNat x := by
          intro x
          rw [en, bs_s _ _ _ x em (by omega) (by omega), show 6 * (k / 6) + k % 6 = k by omega]
        have same : ¬ (¬ σ.2 48 k = 0 ∧ 0 < k % 6 ∧ bs_n (σ.2 48) (iv_fs σ) (36 * r + k).toNat (k % 6) < bs_n (σ.2 48) (iv_fs σ) (36 * r + k).toNat (k / 6) + iv_fs σ (k / 6)) → fb_V E fb_Mo_framed 31 [.inr 5, .inl r, .inl (k + 1), .inr 999, .inr 999] [] τ Q := by
          intro hno
          refine ih2 τ ⟨hK.1, fun x x0 x6 => ?_⟩
          rw [step x, if_neg (fun z => hno z.1)]
          exact hK.2 x x0 x6
        apply Mo_framed_b31
        refine ⟨by omega, fun h => by omega, fun _ => ⟨by omega, ?_⟩⟩
        apply cm_end hP2 (k / 6) (by omega) (by omega)
        rw [e48, efs, vf, vg]
        refine ⟨by omega, by omega, fun q => same (fun z => z.1 q), fun q => ⟨by omega, fun q2 => same (fun z => by omega), fun q2 => ⟨by omega, by omega, by omega, fun q3 => same (fun z => by omega), fun q3 => ih2 _ ⟨fr_sm hK.1 (by decide), fun x x0 x6 => ?_⟩⟩⟩⟩
        rw [step x, fb_at]
        by_cases ex : x = k % 6
        · rw [if_pos ex, if_pos ⟨⟨q, by omega, by omega⟩, ex⟩]
        · rw [if_neg ex, if_neg (fun z => ex z.2)]
          exact hK.2 x x0 x6
      · intro τ hK
        apply Mo_framed_b31
        refine ⟨by omega, fun _ => ih _ ⟨hK.1, ?_⟩, fun h => by omega⟩
        rw [show 36 * (r + 1) = 36 * r + 36 by omega]
        exact hK.2
    · intro τ hJ
      apply Mo_framed_b23
      refine ⟨by omega, fun _ => ?_, fun h => by omega⟩
      have hv := hJ.2
      rw [show (36 * (6 : Int)).toNat = 216 from rfl] at hv
      have hP2 := fr_P hok hJ.1 hP
      have e160 : τ.1 160 = σ.1 41 := (hJ.1.1 160 (by simp)).trans hA.2.2.1
      have lp := lp_up (P := fun v => ∀ gd : Int, iv_01 (∀ f, 0 ≤ f → f < v → bs_n (σ.2 48) (iv_fs σ) 216 f + iv_fs σ f ≤ 120) gd → fb_V E fb_Mo_framed 100 [.inr 5, .inl gd, .inl v, .inr 999, .inr 999] [] τ Q) (N := σ.1 41) ?_ ?_
      · exact lp 0 (by omega) (by omega) 1 ⟨fun _ => rfl, fun q => absurd (fun f f0 f1 => by omega) q⟩
      · intro v v0 v1 ih gd hgd
        have w := iv_01_v hgd
        have efs := iv_fs_fr hok hJ.1 (f := v) (by omega)
        have bv := hB 216 v
        have hff := hF v v0 (by omega)
        apply Mo_framed_b100
        rw [e160]
        refine ⟨by omega, by omega, fun h => by omega, fun _ => ?_⟩
        apply cm_end hP2 v v0 (by omega)
        rw [efs, hv v v0 (by omega)]
        refine ⟨by omega, fun q => ih 0 ⟨fun z => absurd (fun f f0 f1 => z f f0 (by omega)) ((iv_01_zero hgd).mp q), fun _ => rfl⟩, fun q => ⟨by omega, fun q2 => ih 0 ⟨fun z => by have := z v v0 (by omega); omega, fun _ => rfl⟩, fun q2 => ih 1 ⟨fun _ => rfl, fun z => absurd (fun f f0 f1 => ?_) z⟩⟩⟩
        by_cases e : f = v
        · rw [e]; omega
        · exact (iv_01_one hgd).mp (w.resolve_left q) f f0 (by omega)
      · intro gd hgd
        have w := iv_01_v hgd
        apply Mo_framed_b100
        rw [e160]
        refine ⟨by omega, by omega, fun _ => ⟨w, ?_⟩, fun h => by omega⟩
        rcases w with e | e
        · rw [e]; exact h0 ((iv_01_zero hgd).mp e) τ hJ.1
        · rw [e]; exact h1 ((iv_01_one hgd).mp e) τ hJ.1 hv
