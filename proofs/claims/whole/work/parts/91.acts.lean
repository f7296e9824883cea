/-! the pairs of calls that act -/
section AC
variable {E : fb_E} {π σ τ : fb_S} {L : Int → Int} {n : Nat} {N k v : Int} {Q : Int → Int → fb_S → Prop}
theorem iv_rg_33 (h : iv_rg σ) (e : τ.2 33 = σ.2 33 ∧ τ.2 50 = σ.2 50) : iv_rg τ := by
  unfold iv_rg at *
  rw [e.1, e.2]
  exact h
theorem in_function (I : inv N σ) (h : ∀ r τ, inv N τ → Q r r τ) : fb_V E fb_Fb_function 0 [.inr 0] [] σ (fun r s => fb_V E fb_Mo_function 0 [.inr 5] [] s (fun r2 s2 => Q r r2 s2)) :=
  pr_function I.1 (h _ _ I) (fun r τ p i e => h r τ ⟨p, iv_rg_33 I.2.1 e, Or.inl i⟩)
theorem in_variable (hv : -2147483648 ≤ v ∧ v < 2147483648) (I : inv N σ) (h : ∀ r τ, inv N τ → Q r r τ) : fb_V E fb_Fb_variable 0 [.inr 0, .inl v] [] σ (fun r s => fb_V E fb_Mo_variable 0 [.inr 5, .inl v, .inr 999] [] s (fun r2 s2 => Q r r2 s2)) :=
  pr_variable v hv I.1 (h _ _ I) (fun r τ p i e => h r τ ⟨p, iv_rg_33 I.2.1 e, Or.inl i⟩)
theorem in_op {op a b c : Int} (ho : -2147483648 ≤ op ∧ op < 2147483648) (ha : -2147483648 ≤ a ∧ a < 2147483648) (hb : -2147483648 ≤ b ∧ b < 2147483648) (hc : -2147483648 ≤ c ∧ c < 2147483648) (I : inv N σ) (h : ∀ r τ, inv N τ → Q r r τ) : fb_V E fb_Fb_op 0 [.inr 0, .inl op, .inl a, .inl b, .inl c] [] σ (fun r s => fb_V E fb_Mo_op 0 [.inr 5, .inl op, .inl a, .inl b, .inl c, .inr 999, .inr 999] [] s (fun r2 s2 => Q r r2 s2)) :=
  pr_op op a b c ho ha hb hc I.1 (h _ _ I) (fun r τ p i e => h r τ ⟨p, iv_rg_33 I.2.1 e, Or.inl i⟩)
theorem in_compile (I : inv N σ) (h : ∀ r τ, inv N τ → Q r r τ) : fb_V E fb_Fb_compile 0 [.inr 0, .inr 999] [] σ (fun r s => fb_V E fb_Mo_compile 0 [.inr 5, .inr 999] [] s (fun r2 s2 => Q r r2 s2)) := by
  apply pr_compile I.1 I.2.1
  intro r τ p g i
  refine h r τ ⟨p, g, ?_⟩
  rcases i with i | ⟨⟨⟨π, n, c⟩, i4⟩, j⟩
  · exact Or.inl i
  · exact Or.inr ⟨i4, π, n, c, Or.inl j⟩
/-- code stands as long as what it lives in does -/
theorem cd_fr {A G : List Nat} (c : cd π n σ) (fr : fr_a A G σ τ) (hA : ∀ a ∈ A, a = 37 ∨ a = 38 ∨ a = 39 ∨ a = 55 ∨ a = 56 ∨ a = 57) (hG : ∀ g ∈ G, (132 ≤ g ∧ g ≤ 140) ∨ (182 ≤ g ∧ g ≤ 186)) : cd π n τ := by
  have nA : ∀ a, ¬ (a = 37 ∨ a = 38 ∨ a = 39 ∨ a = 55 ∨ a = 56 ∨ a = 57) → a ∉ A := fun a h q => h (hA a q)
  have nG : ∀ g, ¬ ((132 ≤ g ∧ g ≤ 140) ∨ (182 ≤ g ∧ g ≤ 186)) → g ∉ G := fun g h q => h (hG g q)
  obtain ⟨c1, c2, c3, c4, c5, c6, c7, c8, c9⟩ := c
  have hI := c1.1
  unfold iv_A at hI
  refine ⟨c1, c2, ⟨fun a ha => ?_, ?_, ?_, ?_, ?_⟩, c4, ?_, ?_, ?_, ?_, c9⟩
  · rw [fr.2 a (nA a (by unfold iv_Pcell at ha; omega))]; exact c3.1 a ha
  · rw [fr.1 41 (nG 41 (by omega))]; exact c3.2.1
  · rw [fr.1 42 (nG 42 (by omega))]; exact c3.2.2.1
  · rw [fr.1 160 (nG 160 (by omega))]; exact c3.2.2.2.1
  · rw [fr.1 161 (nG 161 (by omega))]; exact c3.2.2.2.2
  · unfold as_D at *
    rw [fr.1 104 (nG 104 (by omega)), fr.1 105 (nG 105 (by omega)), fr.2 31 (nA 31 (by omega)), fr.2 32 (nA 32 (by omega)), fr.2 33 (nA 33 (by omega))]
    exact c5
  · unfold mo_D at *
    rw [fr.1 173 (nG 173 (by omega)), fr.1 174 (nG 174 (by omega)), fr.2 49 (nA 49 (by omega)), fr.2 50 (nA 50 (by omega)), fr.2 52 (nA 52 (by omega)), fr.2 53 (nA 53 (by omega)), fr.2 54 (nA 54 (by omega))]
    exact c6
  · exact iv_Fr_fr c7 fr (fun a ha => by have := hA a ha; omega) (by omega)
  · rw [fr.2 47 (nA 47 (by omega))]; exact c8
theorem inv_P_fr {A G : List Nat} (hP : iv_P σ) (fr : fr_a A G σ τ) (hA : ∀ a ∈ A, a = 37 ∨ a = 38 ∨ a = 39 ∨ a = 55 ∨ a = 56 ∨ a = 57) (hG : ∀ g ∈ G, (132 ≤ g ∧ g ≤ 140) ∨ (182 ≤ g ∧ g ≤ 186)) : iv_P τ := by
  refine fr_P ⟨fun a ha q => ?_, fun q => ?_, fun q => ?_, fun q => ?_, fun q => ?_⟩ fr hP
  · have := hA a ha; omega
  · have := hG _ q; omega
  · have := hG _ q; omega
  · have := hG _ q; omega
  · have := hG _ q; omega
theorem in_run (hv : -2147483648 ≤ v ∧ v < 2147483648) (I : inv N σ) (hN : 0 ≤ N ∧ N + 2000 < 2147480000) (h : ∀ r τ, inv (N + 2000) τ → Q r r τ) : fb_V E fb_Fb_run 0 [.inr 0, .inl v] [] σ (fun r s => fb_V E fb_Mo_run 0 [.inr 5, .inl v, .inr 999] [] s (fun r2 s2 => Q r r2 s2)) := by
  have I2 : inv (N + 2000) σ := inv_le I (by omega)
  apply Fb_run_b0
  rcases inv_run I with i | ⟨i, i2, π, n, c, x⟩
  · refine ⟨by omega, fun _ => ?_, fun g => absurd i.1 g⟩
    apply Mo_run_b0
    exact ⟨by omega, fun _ => h _ _ I2, fun g => absurd i.2.2.2 g⟩
  · have r := rn_1 x
    have no : ¬ (0 ≤ v ∧ v ≤ 1000) → fb_V E fb_Mo_run 0 [.inr 5, .inl v, .inr 999] [] σ (fun r2 s2 => Q (-1) r2 s2) := by
      intro q
      apply Mo_run_b0
      exact ⟨by omega, fun g => by omega, fun _ => ⟨hv, fun _ => h _ _ I2, fun g1 => ⟨fun g => absurd ⟨by omega, g⟩ q, fun _ => h _ _ I2⟩⟩⟩
    refine ⟨by omega, fun g => by omega, fun _ => ⟨hv, fun g => no (by omega), fun g1 => ⟨fun g2 => ?_, fun g2 => no (by omega)⟩⟩⟩
    apply Po_perform_b0
    apply rn_run x (by omega) (v := v) (by omega) i
    intro r τ X fr
    have hA : ∀ a ∈ (po_A ++ am_A), a = 37 ∨ a = 38 ∨ a = 39 ∨ a = 55 ∨ a = 56 ∨ a = 57 := by simp
    have hG : ∀ g ∈ (po_G ++ am_G), (132 ≤ g ∧ g ≤ 140) ∨ (182 ≤ g ∧ g ≤ 186) := by simp
    exact h r τ ⟨inv_P_fr I.1 fr hA hG, iv_rg_33 I.2.1 ⟨fr.2 33 (by simp), fr.2 50 (by simp)⟩, Or.inr ⟨⟨(fr.1 4 (by decide)).trans i2.1, (fr.1 169 (by decide)).trans i2.2⟩, π, n, cd_fr c fr hA hG, Or.inr ⟨X, (fr.1 182 (by decide)).trans i⟩⟩⟩
theorem ct_begin {R : Int → fb_S → Prop} (h : ∀ τ, fr_a [37] [132, 133, 134, 135, 136, 137, 138, 139, 140] σ τ → (∀ j, 0 ≤ j → j < 128 → τ.2 37 j = 0) → (τ.1 132 = 0 ∧ τ.1 133 = 0 ∧ τ.1 134 = 0 ∧ τ.1 135 = 0 ∧ τ.1 136 = 0 ∧ τ.1 137 = 0 ∧ τ.1 138 = 0 ∧ τ.1 139 = 0 ∧ τ.1 140 = 0) → R 0 τ) : fb_V E fb_Po_begin 0 [.inr 4] [] σ R := by
  apply Po_begin_b0
  apply Ja_fill37_b0
  have clr := lp_st (P := fun v τ => fb_V E fb_Ja_fill 5 [.inr 37, .inl 0, .inl v, .inl 128] [] τ (fun _ s2 => R 0 (fb_sg (fb_sg (fb_sg (fb_sg (fb_sg (fb_sg (fb_sg (fb_sg (fb_sg s2 133 0) 134 0) 135 0) 132 0) 136 0) 137 0) 138 0) 139 0) 140 0))) (I := fun v τ => fr_a [37] [132, 133, 134, 135, 136, 137, 138, 139, 140] σ τ ∧ ∀ j, 0 ≤ j → j < v → τ.2 37 j = 0) (N := 128) ?_ ?_
  · exact clr 0 σ (by omega) (by omega) ⟨fr_rf _ _ _, fun j j0 j1 => by omega⟩
  · intro v τ v0 v1 hI ih
    apply Ja_fill37_b5
    refine ⟨by omega, by omega, fun h => by omega, fun _ => ⟨by omega, ih _ ⟨fr_sm hI.1 (by decide), fun j j0 j1 => ?_⟩⟩⟩
    rw [fb_at]
    split
    · rfl
    · exact hI.2 j j0 (by omega)
  · intro τ hI
    apply Ja_fill37_b5
    refine ⟨by omega, by omega, fun _ => ?_, fun h => by omega⟩
    refine h _ (fr_sg (fr_sg (fr_sg (fr_sg (fr_sg (fr_sg (fr_sg (fr_sg (fr_sg hI.1 (by decide)) (by decide)) (by decide)) (by decide)) (by decide)) (by decide)) (by decide)) (by decide)) (by decide)) hI.2 ?_
    exact ⟨rfl, rfl, rfl, rfl, rfl, rfl, rfl, rfl, rfl⟩
theorem cm_start {R : Int → fb_S → Prop} (h1 : σ.1 169 = 1) (h : ∀ τ, fr_a [55, 56] [182, 183, 184, 185, 186] σ τ → (∀ j, 0 ≤ j → j < 128 → τ.2 56 j = 0) → τ.2 55 0 = 0 → (τ.1 182 = 1 ∧ τ.1 183 = 0 ∧ τ.1 184 = 0 ∧ τ.1 185 = 1 ∧ τ.1 186 = 0) → R 1 τ) : fb_V E fb_Mo_start 0 [.inr 5, .inr 999] [] σ R := by
  apply Mo_start_b0
  refine ⟨by omega, fun _ => ?_, fun g => by omega⟩
  have clr := lp_st (P := fun v τ => fb_V E fb_Mo_start 43 [.inr 5, .inl v] [] τ R) (I := fun v τ => fr_a [55, 56] [182, 183, 184, 185, 186] σ τ ∧ (∀ j, 0 ≤ j → j < v → τ.2 56 j = 0) ∧ τ.2 55 0 = 0 ∧ (τ.1 182 = 1 ∧ τ.1 183 = 0 ∧ τ.1 184 = 0 ∧ τ.1 185 = 1 ∧ τ.1 186 = 0)) (N := 128) ?_ ?_
  · refine clr 0 _ (by omega) (by omega) ⟨fr_sm (fr_sg (fr_sg (fr_sg (fr_sg (fr_sg (fr_rf _ _ _) (by decide)) (by decide)) (by decide)) (by decide)) (by decide)) (by decide), fun j j0 j1 => by omega, ?_, ⟨rfl, rfl, rfl, rfl, rfl⟩⟩
    rw [fb_at, if_pos rfl]
  · intro v τ v0 v1 hI ih
    apply Mo_start_b43
    refine ⟨by omega, fun h => by omega, fun _ => ⟨by omega, ih _ ⟨fr_sm hI.1 (by decide), fun j j0 j1 => ?_, ?_, hI.2.2.2⟩⟩⟩
    · rw [fb_at]
      split
      · rfl
      · exact hI.2.1 j j0 (by omega)
    · rw [fb_ne (by decide)]; exact hI.2.2.1
  · intro τ hI
    apply Mo_start_b43
    exact ⟨by omega, fun _ => h τ hI.1 hI.2.1 hI.2.2.1 hI.2.2.2, fun h => by omega⟩
theorem in_start (I : inv N σ) (hN : 0 ≤ N) (h : ∀ r τ, inv N τ → Q r r τ) : fb_V E fb_Fb_start 0 [.inr 0] [] σ (fun r s => fb_V E fb_Mo_start 0 [.inr 5, .inr 999] [] s (fun r2 s2 => Q r r2 s2)) := by
  apply Fb_start_b0
  rcases inv_code I with i | ⟨i, π, n, c⟩
  · refine ⟨by omega, fun g => absurd i.1 g, fun _ => ?_⟩
    apply Mo_start_b0
    exact ⟨by omega, fun g => absurd i.2 g, fun _ => h _ _ I⟩
  · refine ⟨by omega, fun _ => ?_, fun g => by omega⟩
    apply ct_begin
    intro τ fr hz ht
    apply cm_start ((fr.1 169 (by decide)).trans i.2)
    intro ρ fr2 hz2 h55 ht2
    have frA : fr_a [37, 55, 56] [132, 133, 134, 135, 136, 137, 138, 139, 140, 182, 183, 184, 185, 186] σ ρ := fr_tr (fr_up fr (by simp) (by simp)) (fr_up fr2 (by simp) (by simp))
    have hA : ∀ a ∈ [37, 55, 56], a = 37 ∨ a = 38 ∨ a = 39 ∨ a = 55 ∨ a = 56 ∨ a = 57 := by simp
    have hG : ∀ g ∈ [132, 133, 134, 135, 136, 137, 138, 139, 140, 182, 183, 184, 185, 186], (132 ≤ g ∧ g ≤ 140) ∨ (182 ≤ g ∧ g ≤ 186) := by simp
    have c' := cd_fr c frA hA hG
    have hP := c.1
    have hg := c.2.1
    have hI := hP.1
    unfold iv_A at hI
    have h41 := hg.1.1
    have hw := hg.1.2 0 (by omega) h41
    have h15 := (hP.2.1 0 (by omega) (by omega)).2.2.1
    have h14 := hP.2.2.2.1.2.1 h41
    have hfk := iv_fk hP (f := 0) (i := 0) (by omega) h41 (by omega) (by have := hw.1; omega)
    rw [h14] at hfk
    have eK : am_K ρ = 0 := by
      unfold am_K
      rw [ht2.2.2.2.1]
      exact h55
    have ex : am_xk π 0 = 0 := by
      unfold am_xk
      rw [show (0 : Int) / 24 = 0 from rfl, h14]
      rfl
    have vK : am_vK π 0 := by
      refine ⟨by omega, ?_, ?_⟩
      · rw [show (0 : Int) / 24 = 0 from rfl]; exact h41
      · rw [show (0 : Int) / 24 = 0 from rfl, show (0 : Int) % 24 = 0 from rfl]
        have := hw.1
        omega
    have hi : ly_i π (ly_n π n) 0 = -1 := ly_i_y (Or.inl (by rw [show π.2 16 0 = 0 from hfk.2.1, h14]))
    have ec : ∀ g, g ∉ [182, 183, 184, 185, 186] → ρ.1 g = τ.1 g := fun g hg => fr2.1 g hg
    refine h 1 ρ ⟨inv_P_fr I.1 frA hA hG, iv_rg_33 I.2.1 ⟨frA.2 33 (by simp), frA.2 50 (by simp)⟩, Or.inr ⟨⟨(frA.1 4 (by decide)).trans i.1, (frA.1 169 (by decide)).trans i.2⟩, π, n, c', Or.inr ⟨⟨cd_pk c', cd_X c', ⟨?_, ?_, ?_, ?_, fun _ => ⟨?_, ?_, ?_, ?_, ?_, ?_⟩⟩, fun _ => ⟨?_, ?_, ?_, ?_, ?_⟩, ?_, ?_⟩, ht2.1⟩⟩⟩
    · rw [ec 133 (by decide)]; omega
    · rw [ec 134 (by decide)]; omega
    · rw [ec 135 (by decide)]; omega
    · intro j j0 j1 j2; omega
    · rw [ec 132 (by decide)]; omega
    · rw [ec 136 (by decide), eK, ex, ly_a_0]; omega
    · intro j j0 j1
      rw [hz2 j j0 j1, fr2.2 37 (by simp)]
      exact hz j j0 j1
    · rw [ec 137 (by decide), ec 138 (by decide), ec 139 (by decide), ec 140 (by decide)]
      omega
    · rw [eK, ex, hi]; exact hv_n
    · intro j j0 j1; omega
    · omega
    · intro j j0 j1
      rw [show j = 0 by omega, h55]
      exact vK
    · intro j j0 j1; omega
    · rw [h55]; rfl
    · intro j j0 j1
      rw [hz2 j j0 j1]; omega
    · omega
    · omega
end AC
