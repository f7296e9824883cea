/-! the reference's long branches, its compile -/
section MOQ
variable {E : fb_E} {π σ τ : fb_S} {L L' : Int → Int} {f i k : Int} {Q : Int → fb_S → Prop}
theorem ly_b_next (ho : π.2 17 k = 11 ∨ π.2 17 k = 12) (hL : L k = 0) (k0 : 0 ≤ k) : ly_a π L (k + 1) = ly_b π L k + 2 := by
  have e : ly_it π k 0 (L k) 0 = ly_te π k ++ it_br (if π.2 17 k = 11 then 14 else 16) 0 0 0 := by
    rw [hL]
    unfold ly_it ly_te it_in
    rcases ho with e | e <;> rw [e] <;> rfl
  rw [ly_a_s k0 0 0, e, em_B_app, List.length_append]
  unfold ly_b it_br
  rw [if_pos rfl]
  have : (em_B (em_H (ly_i π L k) (ly_te π k)) [(30, 8 * (if π.2 17 k = 11 then 14 else 16) + 6), (30, (0 - (0 + 2)) % 256)]).length = 2 := rfl
  rw [this]
  omega
theorem mo_branchAt (hP : iv_P π) (hg : iv_good π) (g : pg π σ) (f0 : 0 ≤ f) (f1 : f < π.1 41) (i0 : 0 ≤ i) (i1 : i < π.2 15 f) (hz : σ.2 52 (24 * f + i) = 0) (h173 : σ.1 173 = ly_a π L (π.1 42)) (h50 : ∀ j, 0 ≤ j → j < π.1 42 → σ.2 50 (kx π j) = ly_a π L j) (h : Q (ly_a π L (π.2 14 f + i + 1) - 2) σ) : fb_V E fb_Mo_branchAt 0 [.inr 5, .inl f, .inl (24 * f + i), .inr 999] [] σ Q := by
  obtain ⟨hA, hB, hC, hD, hG, hF, hE⟩ := id hP
  unfold iv_A at hA
  unfold iv_D at hD
  have hb := hB f f0 (by omega)
  have hfk := iv_fk hP f0 f1 i0 i1
  apply Mo_branchAt_b0
  rw [g.a 41 (by omega), hb.2.2.2.1, g.2.2.2.1, hz]
  refine ⟨by omega, by omega, by omega, fun q => ⟨by omega, by omega, fun q2 => ⟨by omega, by omega, fun _ => ?_, fun q3 => absurd rfl q3⟩, fun q2 => ⟨by omega, by omega, by omega, fun _ => ?_, fun q3 => absurd rfl q3⟩⟩, fun q => ⟨by omega, by omega, by omega, fun _ => ?_, fun q3 => absurd rfl q3⟩⟩
  · have := hD.2.2.2 (by omega)
    rw [show π.1 41 - 1 = f by omega] at this
    rw [h173, this, show π.2 14 f + π.2 15 f = π.2 14 f + i + 1 by omega]
    exact h
  · have e1 := hD.2.2.1 f f0 (by omega)
    have hw := (hg.1.2 (f + 1) (by omega) (by omega)).1
    have hb1 := hB (f + 1) (by omega) (by omega)
    have e2 := kx_fi hP (f := f + 1) (i := 0) (by omega) (by omega) (Int.le_refl 0) (by omega)
    have e3 := (iv_fk hP (f := f + 1) (i := 0) (by omega) (by omega) (Int.le_refl 0) (by omega)).1
    rw [show 24 * f + 24 = kx π (π.2 14 (f + 1) + 0) by omega, h50 _ e3.1 e3.2, e1, show π.2 14 f + π.2 15 f + 0 = π.2 14 f + i + 1 by omega]
    exact h
  · have e2 := kx_fi hP (i := i + 1) f0 f1 (by omega) (by omega)
    have e3 := (iv_fk hP (i := i + 1) f0 f1 (by omega) (by omega)).1
    rw [show 24 * f + i + 1 = kx π (π.2 14 f + (i + 1)) by omega, h50 _ e3.1 e3.2, show π.2 14 f + (i + 1) = π.2 14 f + i + 1 by omega]
    exact h
/-- stretched -/
theorem mo_stretched (hP : iv_P π) (hg : iv_good π) (g : pg π σ) (hL : ∀ j, 0 ≤ j → j < π.1 42 → σ.2 52 (kx π j) = L j) (hv : ∀ j, 0 ≤ j → j < π.1 42 → L j = 0 ∨ L j = 1) (h173 : σ.1 173 = ly_a π L (π.1 42)) (h50 : ∀ j, 0 ≤ j → j < π.1 42 → σ.2 50 (kx π j) = ly_a π L j)
    (kk : ∀ r ρ, fr_a [52] [] σ ρ → (∀ j, 0 ≤ j → j < π.1 42 → ρ.2 52 (kx π j) = ly_st π L j) → (∀ x, (∀ j, 0 ≤ j → j < π.1 42 → ¬ kx π j = x) → ρ.2 52 x = σ.2 52 x) → (r = 0 ∨ r = 1) → (r = 0 → ∀ j, 0 ≤ j → j < π.1 42 → ly_st π L j = L j) → (r = 1 → ∃ j, 0 ≤ j ∧ j < π.1 42 ∧ L j = 0 ∧ ly_st π L j = 1) → Q r ρ) :
    fb_V E fb_Mo_stretched 0 [.inr 5, .inr 999, .inr 999, .inr 999, .inr 999] [] σ Q := by
  obtain ⟨hA, hB, hC, hD, hG, hF, hE⟩ := id hP
  unfold iv_A at hA
  unfold iv_D at hD
  have ok : fr_ok [52] [] := by unfold fr_ok; simp
  let J : Int → Int → fb_S → Prop := fun n r τ => fr_a [52] [] σ τ ∧ (∀ j, 0 ≤ j → j < n → τ.2 52 (kx π j) = ly_st π L j) ∧ (∀ j, n ≤ j → j < π.1 42 → τ.2 52 (kx π j) = L j) ∧ (∀ x, (∀ j, 0 ≤ j → j < π.1 42 → ¬ kx π j = x) → τ.2 52 x = σ.2 52 x) ∧ (r = 0 ∨ r = 1) ∧ (r = 0 → ∀ j, 0 ≤ j → j < n → ly_st π L j = L j) ∧ (r = 1 → ∃ j, 0 ≤ j ∧ j < n ∧ L j = 0 ∧ ly_st π L j = 1)
  apply Mo_stretched_b0
  have outer := lp_st (P := fun v τ => ∀ r n, (v < π.1 41 → n = π.2 14 v) → (v = π.1 41 → n = π.1 42) → J n r τ → fb_V E fb_Mo_stretched 4 [.inr 5, .inl r, .inl v, .inr 999, .inr 999] [] τ Q) (I := fun v τ => True) (N := π.1 41) ?_ ?_
  · exact outer 0 σ (by omega) (by omega) trivial 0 0 (fun q => (hD.2.1 q).symm) (fun q => (hD.1 q.symm).symm) ⟨fr_rf _ _ _, fun j j0 j1 => by omega, fun j j0 j1 => hL j j0 j1, fun x _ => rfl, Or.inl rfl, fun _ j j0 j1 => by omega, fun q => absurd q (by decide)⟩
  · intro f τ f0 f1 _ ih r n n1 _ I
    have hn := n1 f1
    subst hn
    have f6 : f < 6 := by omega
    have hb := hB f f0 f6
    have hgf := hG f f0 f1
    have e160 : τ.1 160 = π.1 41 := by rw [I.1.1 160 (by simp), g.2.2.2.1]; exact hA.2.2.1
    apply Mo_stretched_b4
    rw [e160]
    refine ⟨by omega, by omega, fun q => by omega, fun _ => ?_⟩
    have inner := lp_st (P := fun i τ => ∀ r, J (π.2 14 f + i) r τ → fb_V E fb_Mo_stretched 17 [.inr 5, .inl r, .inl f, .inl (24 * f + i), .inr 999] [] τ Q) (I := fun i τ => True) (N := π.2 15 f) ?_ ?_
    · have := inner 0 τ (by omega) (by omega) trivial r (by rw [Int.add_zero]; exact I)
      rw [Int.add_zero] at this; exact this
    · intro i ρ i0 i1 _ ih2 r K
      have hfk := iv_fk hP f0 f1 i0 i1
      have hkx : kx π (π.2 14 f + i) = 24 * f + i := kx_fi hP f0 f1 i0 i1
      have gρ : pg π ρ := g.fr ok K.1
      have e43 : ρ.2 43 (24 * f + i) = π.2 17 (π.2 14 f + i) := by rw [gρ.a 43 (by omega)]; exact hfk.2.2.1
      have hnext : ly_a π L (π.2 14 f + i + 1) = ly_a π L (π.2 14 f + i + 1) := rfl
      have etg : iv_tg ρ (ρ.2 14 f + i) = iv_tg π (π.2 14 f + i) := by rw [gρ.tg, gρ.a 14 (by omega)]
      have hbr := mo_branchAt (E := E) (Q := Q) (L := L) (σ := ρ) hP hg gρ f0 f1 i0 i1
      generalize hk : π.2 14 f + i = k at *
      obtain ⟨k0, k1⟩ := hfk.1
      have ef : π.2 16 k = f := hfk.2.1
      have hik := iv_k hP k0 k1
      obtain ⟨j1, j2, j3, j4, j5, j6, j7⟩ := K
      have e52 : ρ.2 52 (24 * f + i) = L k := by rw [← hkx]; exact j3 k (Int.le_refl _) k1
      have hvk := hv k k0 k1
      have inj : ∀ j, 0 ≤ j → j < π.1 42 → ¬ j = k → ¬ kx π j = 24 * f + i := fun j q0 q1 hn e => hn (kx_inj hP q0 q1 k0 k1 (e.trans hkx.symm))
      have skip : ¬ (L k = 0 ∧ ly_far π L k) → fb_V E fb_Mo_stretched 17 [.inr 5, .inl r, .inl f, .inl (24 * f + (i + 1)), .inr 999] [] ρ Q := by
        intro hn
        have es : ly_st π L k = L k := ly_st_n (fun z => hn z.2)
        refine ih2 ρ trivial r ?_
        rw [show π.2 14 f + (i + 1) = k + 1 by omega]
        refine ⟨j1, fun j q0 q1 => ?_, fun j q0 q1 => j3 j (by omega) q1, j4, j5, fun e j q0 q1 => ?_, fun e => ?_⟩
        · by_cases ej : j = k
          · rw [ej, hkx, e52, es]
          · exact j2 j q0 (by omega)
        · by_cases ej : j = k
          · rw [ej, es]
          · exact j6 e j q0 (by omega)
        · obtain ⟨j, q0, q1, q2⟩ := j7 e
          exact ⟨j, q0, by omega, q2⟩
      have set1 : L k = 0 → ly_far π L k → fb_V E fb_Mo_stretched 17 [.inr 5, .inl 1, .inl f, .inl (24 * f + (i + 1)), .inr 999] [] (fb_sm ρ 52 (24 * f + i) 1) Q := by
        intro hz hf
        have es : ly_st π L k = 1 := ly_st_y ⟨⟨k0, k1⟩, hz, hf⟩
        refine ih2 _ trivial 1 ?_
        rw [show π.2 14 f + (i + 1) = k + 1 by omega]
        refine ⟨fr_sm j1 (by decide), fun j q0 q1 => ?_, fun j q0 q1 => ?_, fun x hx => ?_, Or.inr rfl, fun e => absurd e (by decide), fun _ => ⟨k, k0, by omega, hz, es⟩⟩
        · rw [fb_at]
          by_cases ej : j = k
          · rw [ej, hkx, if_pos rfl, es]
          · rw [if_neg (inj j q0 (by omega) ej)]; exact j2 j q0 (by omega)
        · rw [fb_at, if_neg (inj j (by omega) q1 (by omega))]; exact j3 j (by omega) q1
        · rw [fb_at, if_neg (fun e => hx k k0 k1 (by rw [hkx]; exact e.symm))]; exact j4 x hx
      apply Mo_stretched_b17
      rw [gρ.a 41 (by omega), hb.2.2.2.1, e43, show 24 * f + i + 1 = 24 * f + (i + 1) by omega]
      refine ⟨by omega, by omega, by omega, fun q => by omega, fun _ => ⟨by omega, ?_⟩⟩
      apply cm_branches _ hik.2.2.2.1.1
      · intro ho
        rw [e52]
        refine ⟨by omega, fun q => absurd q (by decide), fun _ => ⟨by omega, fun q => ?_, fun q => skip (fun z => q z.1)⟩⟩
        apply cm_goal (gρ.P hP) f0 (by rw [gρ.2.1]; exact f1) i0 (by rw [gρ.a 15 (by omega)]; exact i1)
        rw [etg]
        have ht := hg.2.1 k k0 k1 (show iv_isT (π.2 17 k) by unfold iv_isT; omega)
        rw [ef] at ht
        have egi : ly_gi π k = π.2 14 f + iv_tg π k := by unfold ly_gi; rw [if_neg (by omega), ef]
        have ekg := kx_fi hP f0 f1 ht.1 ht.2
        have hgi := ly_gi_in hP hg k0 k1 (by omega)
        have e50 : ρ.2 50 (24 * f + iv_tg π k) = ly_a π L (ly_gi π k) := by rw [j1.2 50 (by simp), ← ekg, ← egi]; exact h50 _ hgi.1 hgi.2
        refine ⟨by omega, ?_⟩
        refine mo_branchAt (L := L) hP hg gρ f0 f1 i0 i1 (by rw [e52]; exact q) (by rw [j1.1 173 (by simp)]; exact h173) (by rw [j1.2 50 (by simp)]; exact h50) ?_
        rw [e50, hk, ly_b_next ho q k0]
        have h1 := ly_a_b (π := π) (L := L) hgi.1
        have h2 := ly_a_b (π := π) (L := L) (k := k + 1) (by omega)
        have h3 := ly_b_next (π := π) (L := L) ho q k0
        have ed : ly_a π L (ly_gi π k) - (ly_b π L k + 2 - 2) - 2 = ly_a π L (ly_gi π k) - (ly_b π L k + 2) := by omega
        rw [ed]
        exact ⟨by omega, fun q2 => set1 q ⟨ho, fun z => by omega⟩, fun q2 => ⟨fun q3 => set1 q ⟨ho, fun z => by omega⟩, fun q3 => skip (fun z => z.2.2 ⟨by omega, by omega⟩)⟩⟩
      · intro ho
        exact ⟨by omega, fun _ => skip (fun z => ho z.2.1), fun q => absurd rfl q⟩
    · intro ρ _ r K
      have gρ : pg π ρ := g.fr ok K.1
      apply Mo_stretched_b17
      rw [gρ.a 41 (by omega), hb.2.2.2.1]
      refine ⟨by omega, by omega, by omega, fun _ => ih ρ trivial r (π.2 14 f + π.2 15 f) (fun q => (hD.2.2.1 f f0 q).symm) (fun q => ?_) K, fun q => by omega⟩
      have := hD.2.2.2 (by omega)
      rw [show π.1 41 - 1 = f by omega] at this
      exact this.symm
  · intro τ _ r n _ n2 I
    have hn := n2 rfl
    subst hn
    obtain ⟨j1, j2, j3, j4, j5, j6, j7⟩ := I
    have e160 : τ.1 160 = π.1 41 := by rw [j1.1 160 (by simp), g.2.2.2.1]; exact hA.2.2.1
    apply Mo_stretched_b4
    rw [e160]
    exact ⟨by omega, by omega, fun _ => ⟨j5, kk r τ j1 j2 j4 j5 j6 j7⟩, fun q => by omega⟩
theorem cn_zero : ∀ n : Nat, cn (fun _ => 0) n = 0
  | 0 => rfl
  | n + 1 => by
    simp only [cn]
    rw [cn_zero n, Int.add_zero]
/-- the sum over the grid -/
theorem kx_sum (hP : iv_P π) {G : Int → Int} : ∀ t : Nat, (t : Int) ≤ π.1 42 → ∃ H : Int → Int, cn H 144 = cn G t ∧ (∀ j : Int, 0 ≤ j → j < t → H (kx π j) = G j) ∧ ∀ x, (∀ j : Int, 0 ≤ j → j < t → ¬ kx π j = x) → H x = 0
  | 0, _ => ⟨fun _ => 0, cn_zero 144, fun j j0 j1 => by omega, fun x _ => rfl⟩
  | t + 1, ht => by
    obtain ⟨H, h1, h2, h3⟩ := kx_sum hP (G := G) t (by omega)
    have hin := kx_in hP (k := (t : Int)) (by omega) (by omega)
    have inj : ∀ j : Int, 0 ≤ j → j < t → ¬ kx π j = kx π t := fun j j0 j1 e => by
      have := kx_inj hP j0 (by omega) (by omega) (by omega) e
      omega
    refine ⟨fun x => if x = kx π t then G t else H x, ?_, fun j j0 j1 => ?_, fun x hx => ?_⟩
    · have := cn_up (F := H) (G := fun x => if x = kx π t then G t else H x) (k := kx π t) (x := G t) hin.1.1 (by
        show (if kx π t = kx π t then G t else H (kx π t)) = _
        rw [if_pos rfl, h3 _ inj, Int.zero_add]) (fun j hj => if_neg hj) 144 (by omega)
      rw [this, h1]
      rfl
    · show (if kx π j = kx π t then G t else H (kx π j)) = G j
      by_cases e : j = t
      · rw [e, if_pos rfl]
      · rw [if_neg (inj j j0 (by omega))]; exact h2 j j0 (by omega)
    · show (if x = kx π t then G t else H x) = 0
      rw [if_neg (fun e => hx t (by omega) (by omega) e.symm)]
      exact h3 x (fun j j0 j1 => hx j j0 (by omega))
theorem cn_tail {G : Int → Int} {t : Nat} (h : ∀ j : Int, (t : Int) ≤ j → G j = 0) : ∀ n : Nat, cn G (t + n) = cn G t
  | 0 => rfl
  | n + 1 => by
    show cn G (t + n) + G ((t + n : Nat) : Int) = _
    rw [cn_tail h n, h _ (by omega), Int.add_zero]
theorem kx_cn (hP : iv_P π) {F : Int → Int} {n : Nat} (h1 : ∀ j, 0 ≤ j → j < π.1 42 → F (kx π j) = ly_n π n j) (h2 : ∀ x, 0 ≤ x → x < 144 → (∀ j, 0 ≤ j → j < π.1 42 → ¬ kx π j = x) → F x = 0) : cn F 144 = cn (ly_n π n) 60 := by
  have hA := hP.1
  unfold iv_A at hA
  obtain ⟨t, ht⟩ := Int.eq_ofNat_of_zero_le hA.2.1.1
  obtain ⟨H, a1, a2, a3⟩ := kx_sum hP (G := ly_n π n) t (by omega)
  have e : cn F 144 = cn H 144 := by
    refine cn_eq 144 (fun x x0 x1 => ?_)
    by_cases ex : ∃ j, 0 ≤ j ∧ j < π.1 42 ∧ kx π j = x
    · obtain ⟨j, j0, j1, j2⟩ := ex
      rw [← j2, h1 j j0 j1, a2 j j0 (by omega)]
    · have hn : ∀ j : Int, 0 ≤ j → j < π.1 42 → ¬ kx π j = x := fun j j0 j1 j2 => ex ⟨j, j0, j1, j2⟩
      rw [h2 x x0 (by omega) hn, a3 x (fun j j0 j1 => hn j j0 (by omega))]
  rw [e, a1]
  have := cn_tail (G := ly_n π n) (t := t) (fun j hj => ly_n_out n (by omega)) (60 - t)
  rw [show t + (60 - t) = 60 by omega] at this
  exact this.symm
end MOQ
