/-! the answers 1 to 5 -/
/-- f calls g -/
def iv_c (σ : fb_S) (f g : Int) : Prop := ((0 ≤ f ∧ f < 6) ∧ (0 ≤ g ∧ g < 6)) ∧ iv_cp σ (σ.1 42) f g
noncomputable def iv_C (σ : fb_S) (k : Int) : Int := @ite Int (iv_c σ (k / 6) (k % 6)) (Classical.propDecidable _) 1 0
theorem iv_C_01 (σ : fb_S) (k : Int) : iv_01 (iv_c σ (k / 6) (k % 6)) (iv_C σ k) := by
  unfold iv_C
  exact ⟨fun h => if_pos h, fun h => if_neg h⟩
theorem iv_C_eq {σ : fb_S} {k x : Int} (h : iv_01 (iv_c σ (k / 6) (k % 6)) x) : x = iv_C σ k := by
  have h2 := iv_C_01 σ k
  by_cases p : iv_c σ (k / 6) (k % 6)
  · rw [h.1 p, h2.1 p]
  · rw [h.2 p, h2.2 p]
noncomputable def iv_bs (σ : fb_S) (x : Int) : Int := bs_n (iv_C σ) (iv_fs σ) 216 x
def iv_rec (σ : fb_S) : Prop := ∃ f, 0 ≤ f ∧ f < 6 ∧ gr_R (iv_c σ) f f
def iv_fit (σ : fb_S) : Prop := ∀ f, 0 ≤ f → f < σ.1 41 → iv_bs σ f + iv_fs σ f ≤ 120
def iv_good (σ : fb_S) : Prop := iv_wh σ ∧ iv_ta σ ∧ iv_ca σ ∧ ¬ iv_rec σ ∧ iv_fit σ
theorem iv_c_in {σ : fb_S} : ∀ f g, iv_c σ f g → (0 ≤ f ∧ f < 6) ∧ (0 ≤ g ∧ g < 6) := fun _ _ h => h.1
theorem iv_mat_c {σ τ : fb_S} {a : Nat} (h : ∀ f g, 0 ≤ f → f < 6 → 0 ≤ g → g < 6 → iv_01 (iv_cp σ (σ.1 42) f g) (τ.2 a (6 * f + g))) : gr_mat (iv_c σ) a τ := fun f g f0 f6 g0 g6 => iv_01_of (h f g f0 f6 g0 g6) ⟨fun q => ⟨⟨⟨f0, f6⟩, g0, g6⟩, q⟩, fun q => q.2⟩
theorem iv_mat_C {σ τ : fb_S} {a : Nat} (h : gr_mat (iv_c σ) a τ) : ∀ k, 0 ≤ k → k < 36 → τ.2 a k = iv_C σ k := by
  intro k k0 k1
  have := h (k / 6) (k % 6) (by omega) (by omega) (by omega) (by omega)
  rw [show 6 * (k / 6) + k % 6 = k by omega] at this
  exact iv_C_eq this
theorem iv_C_v (σ : fb_S) (k : Int) : iv_C σ k = 0 ∨ iv_C σ k = 1 := iv_01_v (iv_C_01 σ k)
theorem iv_C_none {σ : fb_S} (hP : iv_P σ) {k : Int} (h : 6 * σ.1 41 ≤ k) : iv_C σ k = 0 := by
  refine (iv_C_01 σ k).2 (fun q => ?_)
  obtain ⟨-, j, j0, j1, -, h2, -⟩ := q
  have := (iv_k hP j0 j1).1
  omega
/-- what the class's frames hold behind a program without fault -/
def iv_XC : List Nat := [21, 22, 23, 25, 26, 27, 28, 29, 30]
def iv_Fr (σ τ : fb_S) : Prop := (∀ x, 0 ≤ x → x < 6 → τ.2 23 x = iv_bs σ x) ∧ ∀ f v, 0 ≤ f → f < σ.1 41 → 0 ≤ v → v < σ.2 13 f → τ.2 (25 + f.toNat) v = iv_bs σ f + iv_ps σ f v.toNat
theorem ct_fault {E : fb_E} {σ : fb_S} {Q : Int → fb_S → Prop} (hP : iv_P σ) (h1 : ¬ iv_wh σ → Q 1 σ) (h2 : iv_wh σ → ¬ iv_ta σ → Q 2 σ) (h3 : iv_wh σ → iv_ta σ → ¬ iv_ca σ → Q 3 σ)
    (h4 : iv_wh σ → iv_ta σ → iv_ca σ → iv_rec σ → ∀ τ, fr_a iv_XC [] σ τ → Q 4 τ) (h5 : iv_wh σ → iv_ta σ → iv_ca σ → ¬ iv_rec σ → ¬ iv_fit σ → ∀ τ, fr_a iv_XC [] σ τ → Q 5 τ)
    (h0 : iv_good σ → ∀ τ, fr_a iv_XC [] σ τ → iv_Fr σ τ → Q 0 τ) : fb_V E fb_Fb_faultOfProgram 0 [.inr 0] [] σ Q := by
  have hok : fr_ok iv_XC [] := by unfold fr_ok iv_XC; simp
  have hF : ∀ f, 0 ≤ f → f < 6 → 0 ≤ iv_fs σ f ∧ iv_fs σ f ≤ 48 := fun f f0 f6 => iv_fs_in hP f0 f6
  have hB := bs_n_in (C := iv_C σ) hF
  apply Fb_faultOfProgram_b0
  apply ct_isWhole hP
  · intro wh
    refine ⟨by omega, fun _ => ?_, fun h => by omega⟩
    apply ct_hasAllTargets hP
    · intro ta
      refine ⟨by omega, fun _ => ?_, fun h => by omega⟩
      apply ct_hasAllCallees hP
      · intro ca
        refine ⟨by omega, fun _ => ?_, fun h => by omega⟩
        apply ct_gatherCalls hP ca
        intro τ1 fr1 m1
        have mat := iv_mat_c m1
        have f1 : fr_a iv_XC [] σ τ1 := fr_up fr1 (by decide) (by simp)
        apply ct_hasRecursion mat
        · rintro ⟨f, f0, f6, hr⟩ τ2 fr2
          refine ⟨by omega, fun h => by omega, fun _ => h4 wh ta ca ⟨f, f0, f6, (gr_six iv_c_in f f).mp hr⟩ τ2 (fr_tr f1 (fr_up fr2 (by decide) (by simp)))⟩
        · intro nr τ2 fr2
          have nrec : ¬ iv_rec σ := fun ⟨f, f0, f6, hr⟩ => nr ⟨f, f0, f6, (gr_six iv_c_in f f).mpr hr⟩
          have f2 : fr_a iv_XC [] σ τ2 := fr_tr f1 (fr_up fr2 (by decide) (by simp))
          have hP2 := fr_P hok f2 hP
          have e21 : τ2.2 21 = τ1.2 21 := fr2.2 21 (by decide)
          have hC : ∀ k, 0 ≤ k → k < 36 → τ2.2 21 k = iv_C σ k := fun k k0 k1 => by rw [e21]; exact iv_mat_C mat k k0 k1
          have e41 : τ2.1 41 = σ.1 41 := f2.1 41 (by simp)
          refine ⟨by omega, fun _ => ?_, fun h => absurd rfl h⟩
          apply ct_findBases hP2
          · intro k k0 k1; rw [hC k k0 k1]; exact iv_C_v σ k
          · intro k k0 k1
            have hA := hP.1
            unfold iv_A at hA
            rw [e41] at k0
            rw [hC k (by omega) k1]; exact iv_C_none hP k0
          · intro τ3 fr3 b3
            have f3 : fr_a iv_XC [] σ τ3 := fr_tr f2 (fr_up fr3 (by decide) (by simp))
            have hP3 := fr_P hok f3 hP
            have e41' : τ3.1 41 = σ.1 41 := f3.1 41 (by simp)
            have eb : ∀ x, 0 ≤ x → x < 6 → τ3.2 23 x = iv_bs σ x := by
              intro x x0 x6
              rw [b3 x x0 x6, bs_n_eq (C' := iv_C σ) (F' := iv_fs σ) hC (fun f f0 f6 => iv_fs_fr hok f2 f6)]
              rfl
            have e6 : σ.1 41 ≤ 6 := by have hA := hP.1; unfold iv_A at hA; omega
            have fitc : (∀ f, 0 ≤ f → f < τ3.1 41 → τ3.2 23 f + iv_fs τ3 f ≤ 120) ↔ iv_fit σ := by
              unfold iv_fit
              rw [e41']
              constructor
              · intro q f f0 f1'
                have := q f f0 f1'
                rw [eb f f0 (by omega), iv_fs_fr hok f3 (f := f) (by omega)] at this
                exact this
              · intro q f f0 f1'
                rw [eb f f0 (by omega), iv_fs_fr hok f3 (f := f) (by omega)]
                exact q f f0 f1'
            apply ct_fit hP3
            · intro x x0 x6
              have := hB 216 x
              rw [eb x x0 x6]
              unfold iv_bs
              omega
            · intro ft
              refine ⟨by omega, fun _ => ?_, fun h => by omega⟩
              apply ct_placeVariables hP3
              intro τ4 fr4 p4
              refine h0 ⟨wh, ta, ca, nrec, fitc.mp ft⟩ τ4 (fr_tr f3 (fr_up fr4 (by decide) (by simp))) ⟨fun x x0 x6 => ?_, fun f v f0 f1' v0 v1 => ?_⟩
              · rw [fr4.2 23 (by decide)]; exact eb x x0 x6
              · have e13 := fr_p2 hok f3 (a := 13) (by omega)
                rw [p4 f v f0 (by omega) v0 (by rw [e13]; exact v1), eb f f0 (by omega), iv_ps_fr hok f3 (f := f) (by omega)]
            · intro ft
              exact ⟨by omega, fun h => absurd rfl h, fun _ => h5 wh ta ca nrec (fun q => ft (fitc.mpr q)) τ3 f3⟩
      · intro ca
        exact ⟨by omega, fun h => absurd rfl h, fun _ => h3 wh ta ca⟩
    · intro ta
      exact ⟨by omega, fun h => absurd rfl h, fun _ => h2 wh ta⟩
  · intro wh
    exact ⟨by omega, fun h => absurd rfl h, fun _ => h1 wh⟩
