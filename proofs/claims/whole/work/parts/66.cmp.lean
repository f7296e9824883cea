/-! compile, on both sides -/
section CMP
variable {E : fb_E} {π σ τ : fb_S} {L L' : Int → Int} {f i k : Int} {Q : Int → fb_S → Prop}
abbrev mo_CX : List Nat := [49, 50, 52, 53, 54]
abbrev mo_GX : List Nat := [173, 174, 175, 181]
theorem mo_okX : fr_ok mo_CX mo_GX := by unfold fr_ok; simp
/-- the reference's code, done -/
def mo_D (π : fb_S) (L : Int → Int) (ρ : fb_S) : Prop := ρ.1 173 = ly_a π L (π.1 42) ∧ ρ.1 174 = cn L 60 ∧ (∀ j, 0 ≤ j → j < π.1 42 → ρ.2 50 (kx π j) = ly_a π L j) ∧ (∀ j, 0 ≤ j → j < 144 → 0 ≤ ρ.2 50 j ∧ ρ.2 50 j < 65536) ∧ (∀ j, 0 ≤ j → j < π.1 42 → ρ.2 53 (kx π j) = ly_w1 π L j ∧ (π.2 17 j = 13 → ρ.2 54 (kx π j) = ly_w2 π j)) ∧ ly_bt π L 1700 (ρ.2 49) (π.1 42) ∧ ∀ j, 0 ≤ j → j < π.1 42 → ρ.2 52 (kx π j) = L j
theorem mo_cmp111 (hP : iv_P π) {n : Nat} (h1 : ∀ j, 0 ≤ j → j < π.1 42 → σ.2 52 (kx π j) = ly_n π n j) (h2 : ∀ x, 0 ≤ x → x < 144 → (∀ j, 0 ≤ j → j < π.1 42 → ¬ kx π j = x) → σ.2 52 x = 0) (h3 : ∀ j, 0 ≤ j → j < 144 → σ.2 52 j = 0 ∨ σ.2 52 j = 1) (h4 : σ.1 174 = 0) (h5 : 0 ≤ σ.1 173 ∧ σ.1 173 < 2000)
    (kk : ∀ ρ, fr_a [] [174] σ ρ → ρ.1 174 = cn (ly_n π n) 60 → (500 < ρ.1 173 → Q 6 (fb_sg ρ 169 0)) ∧ (¬ 500 < ρ.1 173 → Q 0 (fb_sg ρ 169 1))) : fb_V E fb_Mo_compile 111 [.inr 5, .inl 0] [] σ Q := by
  have loop := lp_st (P := fun v τ => fb_V E fb_Mo_compile 111 [.inr 5, .inl v] [] τ Q) (I := fun v τ => fr_a [] [174] σ τ ∧ τ.1 174 = cn (σ.2 52) v.toNat) (N := 144) ?_ ?_
  · exact loop 0 σ (by omega) (by omega) ⟨fr_rf _ _ _, h4⟩
  · intro v ρ v0 v1 I ih
    have e : (v + 1).toNat = v.toNat + 1 := by omega
    have e2 : ((v.toNat : Nat) : Int) = v := by omega
    apply Mo_compile_b111
    rw [I.1.2 52 (by simp)]
    have hv := h3 v v0 v1
    refine ⟨by omega, fun q => by omega, fun _ => ⟨by omega, by omega, fun q => ih _ ⟨fr_sg I.1 (by decide), ?_⟩, fun q => ih _ ⟨fr_sg I.1 (by decide), ?_⟩⟩⟩
    · show ρ.1 174 + 0 = _
      rw [e]
      simp only [cn]
      rw [I.2, e2, q]
    · show ρ.1 174 + 1 = _
      rw [e]
      simp only [cn]
      rw [I.2, e2]
      omega
  · intro ρ I
    apply Mo_compile_b111
    have e := I.2
    rw [show (144 : Int).toNat = 144 from rfl, kx_cn hP h1 h2] at e
    have := kk ρ I.1 e
    exact ⟨by omega, fun _ => ⟨by rw [I.1.1 173 (by simp)]; omega, this.1, this.2⟩, fun q => by omega⟩
theorem mo_cmp51 (hP : iv_P π) (hg : iv_good π) (g : pg π σ) (h47 : ∀ x, 0 ≤ x → x < 6 → σ.2 47 x = iv_bs π x) (h51 : ∀ f g, 0 ≤ f → f < 6 → 0 ≤ g → g < 24 → iv_01 (iv_gp π (π.1 42) f g) (σ.2 51 (24 * f + g))) (h50 : ∀ j, 0 ≤ j → j < 144 → 0 ≤ σ.2 50 j ∧ σ.2 50 j < 65536)
    (kk : ∀ ρ n, fr_a mo_CX mo_GX σ ρ → ly_n π (n + 1) = ly_n π n → mo_D π (ly_n π n) ρ → (500 < ρ.1 173 → Q 6 (fb_sg ρ 169 0)) ∧ (¬ 500 < ρ.1 173 → Q 0 (fb_sg ρ 169 1))) : fb_V E fb_Mo_compile 51 [.inr 5, .inl 0] [] σ Q := by
  have hA := hP.1
  unfold iv_A at hA
  have ok52 : fr_ok [52] [] := by unfold fr_ok; simp
  have clr := lp_st (P := fun v τ => fb_V E fb_Mo_compile 51 [.inr 5, .inl v] [] τ Q) (I := fun v τ => fr_a [52] [] σ τ ∧ ∀ j, 0 ≤ j → j < v → τ.2 52 j = 0) (N := 144) ?_ ?_
  · exact clr 0 σ (by omega) (by omega) ⟨fr_rf _ _ _, fun j j0 j1 => by omega⟩
  · intro v ρ v0 v1 I ih
    apply Mo_compile_b51
    refine ⟨by omega, fun q => by omega, fun _ => ⟨by omega, ih _ ⟨fr_sm I.1 (by decide), fun j j0 j1 => ?_⟩⟩⟩
    rw [fb_at]
    split
    · rfl
    · exact I.2 j j0 (by omega)
  · intro ρ0 I0
    -- a state between passes
    let S : Nat → fb_S → Prop := fun n τ => fr_a mo_CX mo_GX σ τ ∧ mo_C π τ ∧ (∀ j, 0 ≤ j → j < π.1 42 → τ.2 52 (kx π j) = ly_n π n j) ∧ (∀ x, 0 ≤ x → x < 144 → (∀ j, 0 ≤ j → j < π.1 42 → ¬ kx π j = x) → τ.2 52 x = 0)
    have pass : ∀ (n : Nat) (τ : fb_S) (R : fb_S → Prop), S n τ → (∀ ρ, mo_LI π τ (ly_n π n) (π.1 42) ρ → S n ρ → R ρ) → fb_V E fb_Mo_layOut 0 [.inr 5, .inr 999, .inr 999, .inr 999] [] τ (fun _ s => R s) := by
      intro n τ R hS k
      obtain ⟨s1, s2, s3, s4⟩ := hS
      apply mo_layOut (L := ly_n π n) s2 (fun j j0 j1 => (s3 j j0 j1).symm)
      intro ρ I
      have e52 : ρ.2 52 = τ.2 52 := I.1.2 52 (by simp)
      obtain ⟨c1, c2, c3, c4, c5, c6, c7⟩ := s2
      refine k ρ I ⟨fr_tr s1 (fr_up I.1 (by simp) (by simp)), ⟨c1, c2, c3.fr mo_okL I.1, ?_, ?_, I.2.2.2.2.1, ?_⟩, ?_, ?_⟩
      · rw [I.1.2 47 (by simp)]; exact c4
      · rw [I.1.2 51 (by simp)]; exact c5
      · rw [e52]; exact c7
      · rw [e52]; exact s3
      · rw [e52]; exact s4
    have bound : ∀ n : Nat, 0 ≤ cn (ly_n π n) 60 ∧ cn (ly_n π n) 60 ≤ 60 := fun n => by
      have := cn_01 (F := ly_n π n) 60 (fun j _ _ => ly_n_v n j)
      omega
    have loop : ∀ (m n : Nat) (τ : fb_S), m + n = 62 → S n τ → τ.1 173 = ly_a π (ly_n π n) (π.1 42) → (∀ j, 0 ≤ j → j < π.1 42 → τ.2 50 (kx π j) = ly_a π (ly_n π n) j) → (n : Int) ≤ cn (ly_n π n) 60 → fb_V E fb_Mo_compile 77 [.inr 5, .inl (n : Int)] [] τ Q := by
      intro m
      induction m with
      | zero =>
        intro n τ hm hS e173 e50 hcn
        have := bound n
        omega
      | succ m ih =>
        intro n τ hm hS e173 e50 hcn
        obtain ⟨s1, s2, s3, s4⟩ := id hS
        have gτ := s2.2.2.1
        have nx : ∀ ρ, fr_a [52] [] τ ρ → (∀ j, 0 ≤ j → j < π.1 42 → ρ.2 52 (kx π j) = ly_st π (ly_n π n) j) → (∀ x, (∀ j, 0 ≤ j → j < π.1 42 → ¬ kx π j = x) → ρ.2 52 x = τ.2 52 x) → S (n + 1) ρ := by
          intro ρ fr h1 h2
          obtain ⟨c1, c2, c3, c4, c5, c6, c7⟩ := s2
          have z : ∀ x, 0 ≤ x → x < 144 → (∀ j, 0 ≤ j → j < π.1 42 → ¬ kx π j = x) → ρ.2 52 x = 0 := fun x x0 x1 hx => by rw [h2 x hx]; exact s4 x x0 x1 hx
          refine ⟨fr_tr s1 (fr_up fr (by simp) (by simp)), ⟨c1, c2, c3.fr ok52 fr, ?_, ?_, ?_, fun j j0 j1 => ?_⟩, h1, z⟩
          · rw [fr.2 47 (by simp)]; exact c4
          · rw [fr.2 51 (by simp)]; exact c5
          · rw [fr.2 50 (by simp)]; exact c6
          · by_cases ex : ∃ i, 0 ≤ i ∧ i < π.1 42 ∧ kx π i = j
            · obtain ⟨i, i0, i1, i2⟩ := ex
              rw [← i2, h1 i i0 i1]
              exact ly_n_v (n + 1) i
            · exact Or.inl (z j j0 j1 (fun i i0 i1 i2 => ex ⟨i, i0, i1, i2⟩))
        apply Mo_compile_b77
        refine ⟨by omega, fun q => by omega, fun _ => ?_⟩
        apply mo_stretched (L := ly_n π n) hP hg gτ s3 (fun j _ _ => ly_n_v n j) e173 e50
        intro r ρ fr h1 h2 hr hr0 hr1
        have hS1 := nx ρ fr h1 h2
        refine ⟨by rcases hr with e | e <;> rw [e] <;> decide, fun q => ?_, fun q => ?_⟩
        · have hfx : ly_n π (n + 1) = ly_n π n := ly_n_fix (fun j j0 j1 => hr0 q j j0 j1)
          have hS2 : S n ρ := by
            obtain ⟨a1, a2, a3, a4⟩ := hS1
            rw [hfx] at a3
            exact ⟨a1, a2, a3, a4⟩
          apply pass n ρ _ hS2
          intro ρ2 I hS3
          obtain ⟨a1, a2, a3, a4⟩ := hS3
          have hab := ly_a_b (π := π) (L := ly_n π n) (k := π.1 42) (by omega)
          apply mo_cmp111 (σ := fb_sg ρ2 174 0) hP a3 a4 a2.2.2.2.2.2.2 rfl ⟨by show 0 ≤ ρ2.1 173; rw [I.2.1]; omega, by show ρ2.1 173 < 2000; rw [I.2.1]; omega⟩
          intro ρ3 fr3 e174
          have e2 : ρ3.2 = ρ2.2 := by funext a; rw [fr3.2 a (by simp)]; rfl
          refine kk ρ3 n (fr_tr a1 (fr_tr (fr_sg (fr_rf _ _ _) (by decide)) (fr_up fr3 (by simp) (by simp)))) hfx ⟨?_, e174, ?_, ?_, ?_, ?_, ?_⟩
          · rw [fr3.1 173 (by simp)]; exact I.2.1
          · rw [e2]; exact I.2.2.1
          · rw [e2]; exact I.2.2.2.2.1
          · rw [e2]; exact I.2.2.2.2.2.1
          · rw [e2]
            refine I.2.2.2.2.2.2 ?_
            rw [fr.2 50 (by simp)]; exact e50
          · rw [e2]; exact a3
        · apply pass (n + 1) ρ _ hS1
          intro ρ2 I hS3
          rw [show ((n : Int) + 1) = ((n + 1 : Nat) : Int) by omega]
          refine ih (n + 1) ρ2 (by omega) hS3 I.2.1 I.2.2.1 ?_
          obtain ⟨j, j0, j1, j2, j3⟩ := hr1 (hr.resolve_left q)
          have := cn_lt (F := ly_n π n) (G := ly_n π (n + 1)) j0 (by
            show ly_n π n j < ly_st π (ly_n π n) j
            rw [j2, j3]; decide) 60 (fun x x0 x1 => by
            show ly_n π n x ≤ ly_st π (ly_n π n) x
            by_cases q : (0 ≤ x ∧ x < π.1 42) ∧ ly_n π n x = 0 ∧ ly_far π (ly_n π n) x
            · rw [ly_st_y q, q.2.1]; decide
            · rw [ly_st_n q]; exact Int.le_refl _) (by omega)
          omega
    apply Mo_compile_b51
    refine ⟨by omega, fun _ => ?_, fun q => by omega⟩
    have hS0 : S 0 ρ0 := by
      refine ⟨fr_up I0.1 (by simp) (by simp), ⟨hP, hg, g.fr ok52 I0.1, ?_, ?_, ?_, fun j j0 j1 => Or.inl (I0.2 j j0 j1)⟩, fun j j0 j1 => ?_, fun x x0 x1 _ => I0.2 x x0 x1⟩
      · rw [I0.1.2 47 (by simp)]; exact h47
      · rw [I0.1.2 51 (by simp)]; exact h51
      · rw [I0.1.2 50 (by simp)]; exact h50
      · have := kx_in hP j0 j1
        rw [I0.2 _ this.1.1 this.1.2]
        rfl
    apply pass 0 ρ0 _ hS0
    intro ρ I hS
    exact loop 62 0 ρ rfl hS I.2.1 I.2.2.1 (bound 0).1
end CMP
