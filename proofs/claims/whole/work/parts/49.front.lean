/-! the answers 1 to 5 of the reference -/
def iv_XM : List Nat := [47, 48, 51]
def iv_GM : List Nat := [169, 182]
def iv_Mr (σ τ : fb_S) : Prop := (∀ x, 0 ≤ x → x < 6 → τ.2 47 x = iv_bs σ x) ∧ ∀ f g, 0 ≤ f → f < 6 → 0 ≤ g → g < 24 → iv_01 (iv_gp σ (σ.1 42) f g) (τ.2 51 (24 * f + g))
theorem iv_same_P {A G : List Nat} (hok : fr_ok A G) {σ τ : fb_S} (h : fr_a A G σ τ) : (∀ a, (7 ≤ a ∧ a ≤ 20) ∨ (40 ≤ a ∧ a ≤ 46) → τ.2 a = σ.2 a) ∧ τ.1 41 = σ.1 41 ∧ τ.1 42 = σ.1 42 := ⟨fun _ ha => fr_p2 hok h ha, h.1 _ hok.2.1, h.1 _ hok.2.2.1⟩
theorem iv_wh_fr {A G : List Nat} (hok : fr_ok A G) {σ τ : fb_S} (h : fr_a A G σ τ) : iv_wh τ ↔ iv_wh σ := by
  obtain ⟨p, p41, p42⟩ := iv_same_P hok h
  unfold iv_wh iv_wf
  rw [p41, p 15 (by omega), p 14 (by omega), p 17 (by omega)]
theorem iv_ta_fr {A G : List Nat} (hok : fr_ok A G) {σ τ : fb_S} (h : fr_a A G σ τ) : iv_ta τ ↔ iv_ta σ := by
  obtain ⟨p, p41, p42⟩ := iv_same_P hok h
  unfold iv_ta iv_tk
  simp only [fr_tg hok h]
  rw [p42, p 17 (by omega), p 15 (by omega), p 16 (by omega)]
theorem iv_ca_fr {A G : List Nat} (hok : fr_ok A G) {σ τ : fb_S} (h : fr_a A G σ τ) : iv_ca τ ↔ iv_ca σ := by
  obtain ⟨p, p41, p42⟩ := iv_same_P hok h
  unfold iv_ca iv_ck
  rw [p41, p42, p 17 (by omega), p 18 (by omega)]
theorem iv_cp_fr {A G : List Nat} (hok : fr_ok A G) {σ τ : fb_S} (h : fr_a A G σ τ) (n f g : Int) : iv_cp τ n f g ↔ iv_cp σ n f g := by
  obtain ⟨p, p41, p42⟩ := iv_same_P hok h
  unfold iv_cp
  rw [p 17 (by omega), p 16 (by omega), p 18 (by omega)]
theorem iv_gp_fr {A G : List Nat} (hok : fr_ok A G) {σ τ : fb_S} (h : fr_a A G σ τ) (n f g : Int) : iv_gp τ n f g ↔ iv_gp σ n f g := by
  obtain ⟨p, p41, p42⟩ := iv_same_P hok h
  unfold iv_gp
  simp only [fr_tg hok h]
  rw [p 17 (by omega), p 16 (by omega)]
theorem iv_c_fr {A G : List Nat} (hok : fr_ok A G) {σ τ : fb_S} (h : fr_a A G σ τ) : iv_c τ = iv_c σ := by
  funext f g
  unfold iv_c
  rw [(iv_same_P hok h).2.2]
  exact propext (and_congr Iff.rfl (iv_cp_fr hok h _ f g))
theorem iv_C_fr {A G : List Nat} (hok : fr_ok A G) {σ τ : fb_S} (h : fr_a A G σ τ) : iv_C τ = iv_C σ := by
  funext k
  unfold iv_C
  rw [iv_c_fr hok h]
theorem iv_bs_fr {A G : List Nat} (hok : fr_ok A G) {σ τ : fb_S} (h : fr_a A G σ τ) : iv_bs τ = iv_bs σ := by
  funext x
  unfold iv_bs
  rw [iv_C_fr hok h, bs_n_eq (C := iv_C σ) (C' := iv_C σ) (F := iv_fs τ) (F' := iv_fs σ) (fun _ _ _ => rfl) (fun f f0 f6 => iv_fs_fr hok h f6)]
theorem cm_front {E : fb_E} {σ : fb_S} {Q : Int → fb_S → Prop} (hP : iv_P σ) (h1 : ¬ iv_wh σ → Q 1 (iv_chg σ)) (h2 : iv_wh σ → ¬ iv_ta σ → ∀ τ, fr_a iv_XM [] (iv_chg σ) τ → Q 2 τ) (h3 : iv_wh σ → iv_ta σ → ¬ iv_ca σ → ∀ τ, fr_a iv_XM [] (iv_chg σ) τ → Q 3 τ)
    (h4 : iv_wh σ → iv_ta σ → iv_ca σ → iv_rec σ → ∀ τ, fr_a iv_XM [] (iv_chg σ) τ → Q 4 τ) (h5 : iv_wh σ → iv_ta σ → iv_ca σ → ¬ iv_rec σ → ¬ iv_fit σ → ∀ τ, fr_a iv_XM [] (iv_chg σ) τ → Q 5 τ)
    (h0 : iv_good σ → ∀ τ, fr_a iv_XM [] (iv_chg σ) τ → iv_Mr σ τ → fb_V E fb_Mo_compile 51 [.inr 5, .inl 0] [] τ Q) : fb_V E fb_Mo_compile 0 [.inr 5, .inr 999] [] σ Q := by
  have hok : fr_ok iv_XM [] := by unfold fr_ok iv_XM; simp
  have okG : fr_ok [] iv_GM := by unfold fr_ok iv_GM; simp
  have frc : fr_a [] iv_GM σ (iv_chg σ) := fr_sg (fr_sg (fr_rf _ _ _) (by decide)) (by decide)
  have hPc : iv_P (iv_chg σ) := fr_P okG frc hP
  have ewh := iv_wh_fr okG frc
  have eta := iv_ta_fr okG frc
  have eca := iv_ca_fr okG frc
  have ec := iv_c_fr okG frc
  have eC := iv_C_fr okG frc
  have ebs := iv_bs_fr okG frc
  have e42 : (iv_chg σ).1 42 = σ.1 42 := rfl
  have e41 : (iv_chg σ).1 41 = σ.1 41 := rfl
  have e6 : σ.1 41 ≤ 6 := by have hA := hP.1; unfold iv_A at hA; omega
  apply Mo_compile_b0
  apply Mo_change_b0
  show fb_V E fb_Mo_ended 0 [.inr 5, .inr 999, .inr 999] [] (iv_chg σ) _
  apply cm_ended hPc
  · intro wh
    rw [ewh] at wh
    refine ⟨by omega, fun _ => ?_, fun h => by omega⟩
    apply cm_aimed hPc
    · intro ta τ1 fr1 t1
      rw [eta] at ta
      have f1 : fr_a iv_XM [] (iv_chg σ) τ1 := fr_up fr1 (by decide) (by simp)
      have hP1 := fr_P hok f1 hPc
      have eca1 := (iv_ca_fr hok f1).trans eca
      refine ⟨by omega, fun _ => ?_, fun h => by omega⟩
      apply cm_called hP1
      · intro ca τ2 fr2 m2
        rw [eca1] at ca
        have f2 : fr_a iv_XM [] (iv_chg σ) τ2 := fr_tr f1 (fr_up fr2 (by decide) (by simp))
        have hP2 := fr_P hok f2 hPc
        have e12 : τ1.1 42 = σ.1 42 := (f1.1 42 (by simp)).trans e42
        have mat : gr_mat (iv_c σ) 48 τ2 := by
          refine iv_mat_c (fun f g f0 f6 g0 g6 => iv_01_of (m2 f g f0 f6 g0 g6) ?_)
          rw [e12]
          exact (iv_cp_fr hok f1 _ f g).trans (iv_cp_fr okG frc _ f g)
        refine ⟨by omega, fun _ => ?_, fun h => by omega⟩
        apply cm_rings mat iv_c_in
        · intro hr
          exact ⟨by omega, fun h => by omega, fun _ => h4 wh ta ca hr τ2 f2⟩
        · intro nr
          refine ⟨by omega, fun _ => ?_, fun h => absurd rfl h⟩
          have hC := iv_mat_C mat
          have e412 : τ2.1 41 = σ.1 41 := (f2.1 41 (by simp)).trans e41
          have efs : ∀ f, f < 6 → iv_fs τ2 f = iv_fs σ f := fun f f6 => (iv_fs_fr hok f2 f6).trans (iv_fs_fr okG frc f6)
          have ebn : bs_n (τ2.2 48) (iv_fs τ2) 216 = iv_bs σ := by
            funext x
            rw [bs_n_eq (C' := iv_C σ) (F' := iv_fs σ) hC (fun f f0 f6 => efs f f6)]
            rfl
          have fitc : (∀ f, 0 ≤ f → f < τ2.1 41 → bs_n (τ2.2 48) (iv_fs τ2) 216 f + iv_fs τ2 f ≤ 120) ↔ iv_fit σ := by
            unfold iv_fit
            rw [e412, ebn]
            constructor
            · intro q f f0 f1'
              have := q f f0 f1'
              rw [efs f (by omega)] at this
              exact this
            · intro q f f0 f1'
              rw [efs f (by omega)]
              exact q f f0 f1'
          apply cm_framed hP2
          · intro k k0 k1; rw [hC k k0 k1]; exact iv_C_v σ k
          · intro ft τ3 fr3 b3
            have f3 : fr_a iv_XM [] (iv_chg σ) τ3 := fr_tr f2 (fr_up fr3 (by decide) (by simp))
            refine ⟨by omega, fun _ => h0 ⟨wh, ta, ca, nr, fitc.mp ft⟩ τ3 f3 ⟨fun x x0 x6 => ?_, fun f g f0 f6 g0 g6 => ?_⟩, fun h => by omega⟩
            · rw [b3 x x0 x6, ebn]
            · rw [fr3.2 51 (by decide), fr2.2 51 (by decide)]
              refine iv_01_of (t1 f g f0 f6 g0 g6) ?_
              rw [e42]
              exact iv_gp_fr okG frc _ f g
          · intro ft τ3 fr3
            have f3 : fr_a iv_XM [] (iv_chg σ) τ3 := fr_tr f2 (fr_up fr3 (by decide) (by simp))
            exact ⟨by omega, fun h => absurd rfl h, fun _ => h5 wh ta ca nr (fun q => ft (fitc.mpr q)) τ3 f3⟩
      · intro ca τ2 fr2
        rw [eca1] at ca
        exact ⟨by omega, fun h => absurd rfl h, fun _ => h3 wh ta ca τ2 (fr_tr f1 (fr_up fr2 (by decide) (by simp)))⟩
    · intro ta τ1 fr1
      rw [eta] at ta
      exact ⟨by omega, fun h => absurd rfl h, fun _ => h2 wh ta τ1 (fr_up fr1 (by decide) (by simp))⟩
  · intro wh
    rw [ewh] at wh
    exact ⟨by omega, fun h => absurd rfl h, fun _ => h1 wh⟩
