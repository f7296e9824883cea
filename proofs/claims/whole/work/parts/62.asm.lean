/-! the class's assembler, whole -/
theorem em_B_pos : ∀ (l : em_I) (h : Int), (∃ x ∈ l, ¬ x.1 = 0 ∧ x.1 ≤ 31) → 0 < (em_B h l).length
  | [], _, ⟨x, hx, _⟩ => absurd hx List.not_mem_nil
  | y :: l, h, ⟨x, hx, h0, h31⟩ => by
    simp only [em_B, List.length_append]
    rcases List.mem_cons.mp hx with e | e
    · rw [e] at h0 h31
      have : 0 < (em_b h y.1 y.2).length := by
        unfold em_b
        by_cases h1 : y.1 ≤ 11
        · rw [if_pos h1, if_neg (fun q => h0 q.1)]; simp
        · rw [if_neg h1]
          by_cases h2 : y.1 = 18 ∨ y.1 = 19
          · rw [if_pos h2]; simp
          · rw [if_neg h2]
            by_cases h3 : y.1 ≤ 22
            · rw [if_pos h3]; simp
            · rw [if_neg h3, if_pos h31]; simp
      omega
    · have := em_B_pos l (em_h h y.1 y.2) ⟨x, e, h0, h31⟩
      omega
theorem ex_ite {c : Prop} [Decidable c] {l m : em_I} {P : Int × Int → Prop} (h1 : ∃ x ∈ l, P x) (h2 : ∃ x ∈ m, P x) : ∃ x ∈ (if c then l else m), P x := by
  split
  · exact h1
  · exact h2
theorem ex_2 {s : Int} {l0 l1 : em_I} {P : Int × Int → Prop} (h1 : ∃ x ∈ l0, P x) : ∃ x ∈ it_2 s l0 l1, P x := by
  obtain ⟨x, hx, hp⟩ := h1
  refine ⟨x, ?_, hp⟩
  unfold it_2
  split
  · exact List.mem_append_left _ hx
  · exact hx
theorem ex_r {l m : em_I} {P : Int × Int → Prop} (h1 : ∃ x ∈ m, P x) : ∃ x ∈ l ++ m, P x := by
  obtain ⟨x, hx, hp⟩ := h1
  exact ⟨x, List.mem_append_right _ hx, hp⟩
theorem ex_l {l m : em_I} {P : Int × Int → Prop} (h1 : ∃ x ∈ l, P x) : ∃ x ∈ l ++ m, P x := by
  obtain ⟨x, hx, hp⟩ := h1
  exact ⟨x, List.mem_append_left _ hx, hp⟩
theorem it_in_mem (z : Int → Int) (p : Int → Int → Int) (zg pg op a b c ga lg pos : Int) : ∃ x ∈ it_in z p zg pg op a b c ga lg pos, ¬ x.1 = 0 ∧ x.1 ≤ 31 := by
  have br : ∀ n, ∃ x ∈ it_br n pos ga lg, ¬ x.1 = 0 ∧ x.1 ≤ 31 := by
    intro n
    unfold it_br
    refine ex_ite ⟨_, List.mem_cons_self, ?_⟩ ⟨_, List.mem_cons_self, ?_⟩ <;> simp
  have cb : ∀ n, ∃ x ∈ it_comb z p n a b c, ¬ x.1 = 0 ∧ x.1 ≤ 31 := fun n => ex_2 ⟨(1, p a 0), by simp, by simp⟩
  unfold it_in
  refine ex_ite (ex_2 ⟨(1, p a 0), by simp, by simp⟩) (ex_ite (ex_2 ⟨(1, p a 0), by simp, by simp⟩) (ex_ite (ex_r (cb 2)) (ex_ite (ex_r (cb 3)) (ex_ite (cb op) (ex_ite (ex_2 ⟨(7, p a 0), by simp, by simp⟩) (ex_ite (ex_l ⟨(9, p c 0), by simp [it_idx], by simp⟩) (ex_ite (ex_l ⟨(9, p b 0), by simp [it_idx], by simp⟩) (ex_ite ⟨(18, ga), by simp, by simp⟩ (ex_ite (ex_r (br 14)) (ex_ite (ex_r (br 16)) (ex_ite (ex_l (ex_r ⟨(19, ga), by simp, by simp⟩)) (ex_ite ⟨(20, 0), by simp [it_ret], by simp⟩ (ex_2 ⟨(21, 0), by simp, by simp⟩)))))))))))))
section ASM
variable {E : fb_E} {π σ τ : fb_S} {L L' : Int → Int} {k : Int} {Q : Int → fb_S → Prop}
theorem ly_a_lt1 (k0 : 0 ≤ k) : ly_a π L k < ly_a π L (k + 1) := by
  rw [ly_a_s k0 0 0]
  have := em_B_pos (ly_it π k 0 (L k) 0) (ly_i π L k) (it_in_mem _ _ _ _ _ _ _ _ _ _ _)
  omega
theorem ly_a_lt {j : Int} (j0 : 0 ≤ j) (h : j < k) : ly_a π L j < ly_a π L k := by
  have h1 := ly_a_lt1 (π := π) (L := L) j0
  have h2 := ly_a_le (π := π) (L := L) (j := j + 1) (k := k) (by omega) (by omega)
  omega
theorem ct_markTargets (hP : iv_P π) (hg : iv_good π) (g : pg π σ) (kk : ∀ ρ, fr_a [35, 36] [] σ ρ → (∀ j, 0 ≤ j → j < 60 → ρ.2 36 j = 0) → (∀ k, 0 ≤ k → k < π.1 42 → iv_01 (iv_gp π (π.1 42) (π.2 16 k) (k - π.2 14 (π.2 16 k))) (ρ.2 35 k)) → Q 0 ρ) : fb_V E fb_As_markTargets 0 [.inr 3, .inr 999] [] σ Q := by
  have hA := hP.1
  unfold iv_A at hA
  have ok : fr_ok [35, 36] [] := by unfold fr_ok; simp
  apply As_markTargets_b0
  have clr := lp_st (P := fun v τ => fb_V E fb_As_markTargets 2 [.inr 3, .inl v] [] τ Q) (I := fun v τ => fr_a [35, 36] [] σ τ ∧ ∀ j, 0 ≤ j → j < v → τ.2 35 j = 0 ∧ τ.2 36 j = 0) (N := 60) ?_ ?_
  · exact clr 0 σ (by omega) (by omega) ⟨fr_rf _ _ _, fun j j0 j1 => by omega⟩
  · intro v τ v0 v1 I ih
    apply As_markTargets_b2
    refine ⟨by omega, fun q => by omega, fun _ => ⟨by omega, ih _ ⟨fr_sm (fr_sm I.1 (by decide)) (by decide), fun j j0 j1 => ?_⟩⟩⟩
    rw [fb_ne (by decide), fb_at, fb_at, fb_ne (by decide)]
    by_cases e : j = v
    · rw [if_pos e, if_pos e]; exact ⟨rfl, rfl⟩
    · rw [if_neg e, if_neg e]; exact I.2 j j0 (by omega)
  · intro τ I
    apply As_markTargets_b2
    refine ⟨by omega, fun _ => ?_, fun q => by omega⟩
    have loop := lp_st (P := fun v τ => fb_V E fb_As_markTargets 30 [.inr 3, .inl v] [] τ Q) (I := fun v τ => fr_a [35, 36] [] σ τ ∧ (∀ j, 0 ≤ j → j < 60 → τ.2 36 j = 0) ∧ ∀ j, 0 ≤ j → j < 60 → iv_01 (∃ x, 0 ≤ x ∧ x < v ∧ iv_isT (π.2 17 x) ∧ π.2 14 (π.2 16 x) + iv_tg π x = j) (τ.2 35 j)) (N := π.1 42) ?_ ?_
    · exact loop 0 τ (by omega) (by omega) ⟨I.1, fun j j0 j1 => (I.2 j j0 j1).2, fun j j0 j1 => ⟨fun ⟨x, x0, x1, _⟩ => by omega, fun _ => (I.2 j j0 j1).1⟩⟩
    · intro k ρ k0 k1 J ih
      obtain ⟨j1, j2, j3⟩ := J
      have gt : pg π ρ := g.fr ok j1
      have hk := iv_k hP k0 k1
      apply As_markTargets_b30
      rw [gt.2.2.1]
      refine ⟨by omega, by omega, fun q => by omega, fun _ => ?_⟩
      apply ct_hasTarget k (by omega) (by rw [gt.a 17 (by omega)]; exact hk.2.2.2.1.1)
      · intro q
        rw [gt.a 17 (by omega)] at q
        refine ⟨by omega, fun q2 => absurd q2 (by decide), fun _ => ?_⟩
        apply ct_goalOf k (by omega) (by rw [gt.a 17 (by omega)]; exact hk.2.2.2.1.1) (by rw [gt.a 16 (by omega)]; omega)
        rw [gt.a 14 (by omega), gt.a 16 (by omega), gt.tg]
        have hgi := ly_gi_in hP hg k0 k1 (by omega)
        have egi : ly_gi π k = π.2 14 (π.2 16 k) + iv_tg π k := by unfold ly_gi; rw [if_neg (by omega)]
        rw [egi] at hgi
        refine ⟨by omega, ih _ ⟨fr_sm j1 (by decide), fun j j0 jj => by rw [fb_ne (by decide)]; exact j2 j j0 jj, fun j j0 jj => ?_⟩⟩
        rw [fb_at]
        by_cases e : j = π.2 14 (π.2 16 k) + iv_tg π k
        · rw [if_pos e]
          exact ⟨fun _ => rfl, fun hn => absurd ⟨k, k0, by omega, q, e.symm⟩ hn⟩
        · rw [if_neg e]
          refine iv_01_of (j3 j j0 jj) ⟨fun ⟨x, x0, x1, x2⟩ => ⟨x, x0, by omega, x2⟩, fun ⟨x, x0, x1, x2, x3⟩ => ⟨x, x0, ?_, x2, x3⟩⟩
          by_cases ex : x = k
          · rw [ex] at x3; exact absurd x3.symm e
          · omega
      · intro q
        rw [gt.a 17 (by omega)] at q
        refine ⟨by omega, fun _ => ?_, fun q2 => absurd rfl q2⟩
        refine ih _ ⟨j1, j2, fun j j0 jj => ?_⟩
        refine iv_01_of (j3 j j0 jj) ⟨fun ⟨x, x0, x1, x2⟩ => ⟨x, x0, by omega, x2⟩, fun ⟨x, x0, x1, x2, x3⟩ => ⟨x, x0, ?_, x2, x3⟩⟩
        by_cases ex : x = k
        · rw [ex] at x2; exact absurd x2 q
        · omega
    · intro ρ J
      obtain ⟨j1, j2, j3⟩ := J
      have gt : pg π ρ := g.fr ok j1
      apply As_markTargets_b30
      rw [gt.2.2.1]
      refine ⟨by omega, by omega, fun _ => kk ρ j1 j2 (fun k k0 k1 => ?_), fun q => by omega⟩
      have hk := iv_k hP k0 k1
      refine iv_01_of (j3 k k0 (by omega)) ⟨fun ⟨x, x0, x1, x2, x3⟩ => ⟨x, x0, x1, x2, ?_⟩, fun ⟨x, x0, x1, x2, x3, x4⟩ => ⟨x, x0, x1, x2, ?_⟩⟩
      · have hx := iv_k hP x0 x1
        have ht := hg.2.1 x x0 x1 x2
        have h2 := (iv_fk hP hx.1.1 hx.1.2 ht.1 ht.2).2.1
        rw [x3] at h2
        exact ⟨h2.symm, by rw [h2]; omega⟩
      · rw [x3, x4]; omega
theorem ct_markLabels (hP : iv_P π) (g : pg π σ) (h33 : ∀ j, 0 ≤ j → j < π.1 42 → σ.2 33 j = ly_a π L j) (kk : ∀ ρ, fr_a [32] [] σ ρ → (∀ k, 0 ≤ k → k < π.1 42 → ly_a π L k < 500 → ρ.2 32 (ly_a π L k) = 24 * π.2 16 k + (k - π.2 14 (π.2 16 k))) → (∀ x, 0 ≤ x → x < 500 → (∀ k, 0 ≤ k → k < π.1 42 → ¬ ly_a π L k = x) → ρ.2 32 x = -1) → Q 0 ρ) : fb_V E fb_As_markLabels 0 [.inr 3, .inr 999, .inr 999] [] σ Q := by
  have hA := hP.1
  unfold iv_A at hA
  have ok : fr_ok [32] [] := by unfold fr_ok; simp
  apply As_markLabels_b0
  apply Ja_fill32_b0
  have clr := lp_st (P := fun v τ => fb_V E fb_Ja_fill 5 [.inr 32, .inl (-1), .inl v, .inl 500] [] τ (fun _ s2 => fb_V E fb_As_markLabels 10 [.inr 3, .inl 0, .inr 999] [] s2 Q)) (I := fun v τ => fr_a [32] [] σ τ ∧ ∀ j, 0 ≤ j → j < v → τ.2 32 j = -1) (N := 500) ?_ ?_
  · exact clr 0 σ (by omega) (by omega) ⟨fr_rf _ _ _, fun j j0 j1 => by omega⟩
  · intro v τ v0 v1 I ih
    apply Ja_fill32_b5
    refine ⟨by omega, by omega, fun q => by omega, fun _ => ⟨by omega, ih _ ⟨fr_sm I.1 (by decide), fun j j0 j1 => ?_⟩⟩⟩
    rw [fb_at]
    split
    · rfl
    · exact I.2 j j0 (by omega)
  · intro τ I
    apply Ja_fill32_b5
    refine ⟨by omega, by omega, fun _ => ?_, fun q => by omega⟩
    have loop := lp_st (P := fun v τ => fb_V E fb_As_markLabels 10 [.inr 3, .inl v, .inr 999] [] τ Q) (I := fun v τ => fr_a [32] [] σ τ ∧ (∀ k, 0 ≤ k → k < v → ly_a π L k < 500 → τ.2 32 (ly_a π L k) = 24 * π.2 16 k + (k - π.2 14 (π.2 16 k))) ∧ ∀ x, 0 ≤ x → x < 500 → (∀ k, 0 ≤ k → k < v → ¬ ly_a π L k = x) → τ.2 32 x = -1) (N := π.1 42) ?_ ?_
    · exact loop 0 τ (by omega) (by omega) ⟨I.1, fun k k0 k1 => by omega, fun x x0 x1 _ => I.2 x x0 x1⟩
    · intro k ρ k0 k1 J ih
      obtain ⟨j1, j2, j3⟩ := J
      have gt : pg π ρ := g.fr ok j1
      have hk := iv_k hP k0 k1
      have hab := ly_a_b (π := π) (L := L) k0
      apply As_markLabels_b10
      rw [gt.2.2.1, j1.2 33 (by simp), h33 k k0 k1, gt.a 16 (by omega), gt.a 14 (by omega)]
      refine ⟨by omega, by omega, fun q => by omega, fun _ => ⟨by omega, by omega, fun q => ih _ ⟨j1, fun i i0 i1 hi => ?_, fun x x0 x1 hx => ?_⟩, fun q => ⟨by omega, by omega, ih _ ⟨fr_sm j1 (by decide), fun i i0 i1 hi => ?_, fun x x0 x1 hx => ?_⟩⟩⟩⟩
      · by_cases e : i = k
        · rw [e] at hi; omega
        · exact j2 i i0 (by omega) hi
      · exact j3 x x0 x1 (fun i i0 i1 => hx i i0 (by omega))
      · rw [fb_at]
        by_cases e : i = k
        · rw [e, if_pos rfl]; omega
        · have := ly_a_lt (π := π) (L := L) i0 (show i < k by omega)
          rw [if_neg (by omega)]
          exact j2 i i0 (by omega) hi
      · rw [fb_at, if_neg (fun e => hx k k0 (by omega) e.symm)]
        exact j3 x x0 x1 (fun i i0 i1 => hx i i0 (by omega))
    · intro ρ J
      obtain ⟨j1, j2, j3⟩ := J
      have gt : pg π ρ := g.fr ok j1
      apply As_markLabels_b10
      rw [gt.2.2.1]
      exact ⟨by omega, by omega, fun _ => kk ρ j1 j2 j3, fun q => by omega⟩
/-- the class's code, done -/
def as_D (π : fb_S) (L : Int → Int) (ρ : fb_S) : Prop := ρ.1 104 = ly_a π L (π.1 42) ∧ ρ.1 105 = cn L 60 ∧ (∀ j, 0 ≤ j → j < π.1 42 → ρ.2 33 j = ly_a π L j) ∧ (∀ j, 0 ≤ j → j < 60 → 0 ≤ ρ.2 33 j ∧ ρ.2 33 j < 65536) ∧ ly_bt π L 500 (ρ.2 31) (π.1 42) ∧ (∀ k, 0 ≤ k → k < π.1 42 → ly_a π L k < 500 → ρ.2 32 (ly_a π L k) = 24 * π.2 16 k + (k - π.2 14 (π.2 16 k))) ∧ ∀ x, 0 ≤ x → x < 500 → (∀ k, 0 ≤ k → k < π.1 42 → ¬ ly_a π L k = x) → ρ.2 32 x = -1
abbrev as_CX : List Nat := [31, 32, 33, 34, 35, 36]
abbrev as_GX : List Nat := [104, 105, 106, 107]
theorem as_okX : fr_ok as_CX as_GX := by unfold fr_ok; simp
theorem as_C_fr (C : as_C π σ) {ρ : fb_S} (fr : fr_a [31, 33, 34] [104, 106, 107] σ ρ) (h33 : ∀ j, 0 ≤ j → j < 60 → 0 ≤ ρ.2 33 j ∧ ρ.2 33 j < 65536) : as_C π ρ := by
  obtain ⟨hP, hg, hpg, hF, hL, hA, hT⟩ := C
  have hAA := hP.1
  unfold iv_A at hAA
  refine ⟨hP, hg, hpg.fr as_okL fr, iv_Fr_fr hF fr (by simp) (by omega), ?_, h33, ?_⟩
  · rw [fr.2 36 (by simp)]; exact hL
  · rw [fr.2 35 (by simp)]; exact hT
theorem as_LI_33 (C : as_C π σ) (I : as_LI π σ L (π.1 42) τ) : ∀ j, 0 ≤ j → j < 60 → 0 ≤ τ.2 33 j ∧ τ.2 33 j < 65536 := by
  intro j j0 j1
  obtain ⟨i1, i2, i3, i4, i5, i6, i7⟩ := I
  by_cases lt : j < π.1 42
  · rw [i4 j j0 lt]
    have := ly_a_b (π := π) (L := L) j0
    omega
  · rw [i5 j (by omega)]; exact C.2.2.2.2.2.1 j j0 j1
theorem ct_assemble (hP : iv_P π) (hg : iv_good π) (g : pg π σ) (hF : iv_Fr π σ) (hA33 : ∀ j, 0 ≤ j → j < 60 → 0 ≤ σ.2 33 j ∧ σ.2 33 j < 65536)
    (kk : ∀ ρ n, fr_a as_CX as_GX σ ρ → ly_n π (n + 1) = ly_n π n → as_D π (ly_n π n) ρ → Q 0 ρ) : fb_V E fb_As_assemble 0 [.inr 3, .inr 999, .inr 999] [] σ Q := by
  have hA := hP.1
  unfold iv_A at hA
  apply As_assemble_b0
  apply ct_markTargets hP hg g
  intro ρ0 f0 z0 t0
  -- the loop, by how many passes may follow
  have loop : ∀ (m : Nat) (n : Nat) (v1 : Int) (τ : fb_S), m + n = 61 → (v1 = 0 ∨ v1 = 1) → fr_a as_CX as_GX σ τ → as_C π τ → (∀ j, 0 ≤ j → j < 60 → τ.2 36 j = ly_n π n j) → τ.1 105 = cn (τ.2 36) 60 → (v1 = 1 → (n : Int) ≤ τ.1 105) → (v1 = 0 → ly_n π (n + 1) = ly_n π n ∧ ∀ j, 0 ≤ j → j < π.1 42 → τ.2 33 j = ly_a π (ly_n π n) j) → fb_V E fb_As_assemble 13 [.inr 3, .inl v1, .inl (n : Int)] [] τ Q := by
    intro m
    have last : ∀ (n : Nat) (τ : fb_S), fr_a as_CX as_GX σ τ → as_C π τ → (∀ j, 0 ≤ j → j < 60 → τ.2 36 j = ly_n π n j) → τ.1 105 = cn (τ.2 36) 60 → (ly_n π (n + 1) = ly_n π n ∧ ∀ j, 0 ≤ j → j < π.1 42 → τ.2 33 j = ly_a π (ly_n π n) j) → fb_V E fb_As_emitProgram 0 [.inr 3, .inr 999] [] τ (fun _ s3 => fb_V E fb_As_markLabels 0 [.inr 3, .inr 999, .inr 999] [] s3 (fun _ s5 => Q 0 s5)) := by
      intro n τ fr C h36 h105 hfix
      apply ct_emitProgram C
      intro ρ I
      have h33 := as_LI_33 C I
      have I := as_LI_congr (L' := ly_n π n) hP hg (fun j j0 j1 => h36 j j0 (by omega)) (by omega) (Int.le_refl _) I
      obtain ⟨i1, i2, i3, i4, i5, i6, i7⟩ := I
      apply ct_markLabels (L := ly_n π n) hP (C.2.2.1.fr as_okL i1) i4
      intro ρ2 fr2 l1 l2
      refine kk ρ2 n (fr_tr fr (fr_tr (fr_up i1 (by simp) (by simp)) (fr_up fr2 (by simp) (by simp)))) hfix.1 ⟨?_, ?_, ?_, ?_, ?_, l1, l2⟩
      · rw [fr2.1 104 (by simp), i2]
      · rw [fr2.1 105 (by simp), i1.1 105 (by simp), h105]
        exact cn_eq 60 (fun j j0 j1 => h36 j j0 (by omega))
      · rw [fr2.2 33 (by simp)]; exact i4
      · rw [fr2.2 33 (by simp)]; exact h33
      · rw [fr2.2 31 (by simp)]; exact i7 hfix.2
    induction m with
    | zero =>
      intro n v1 τ hm hv fr C h36 h105 h1 h0
      have hcn := cn_01 (F := τ.2 36) 60 (fun j j0 j1 => C.2.2.2.2.1 j j0 (by omega))
      have v0 : v1 = 0 := by
        rcases hv with e | e
        · exact e
        · have := h1 e; omega
      apply As_assemble_b13
      exact ⟨by omega, fun _ => last n τ fr C h36 h105 (h0 v0), fun q => by omega⟩
    | succ m ih =>
      intro n v1 τ hm hv fr C h36 h105 h1 h0
      apply As_assemble_b13
      refine ⟨by omega, fun _ => by omega, fun q => ⟨by omega, fun v0 => last n τ fr C h36 h105 (h0 v0), fun v1' => ?_⟩⟩
      apply ct_emitProgram C
      intro ρ I
      have h33 := as_LI_33 C I
      have C2 := as_C_fr C I.1 h33
      have e36 : ρ.2 36 = τ.2 36 := I.1.2 36 (by simp)
      have e105 : ρ.1 105 = τ.1 105 := I.1.1 105 (by simp)
      obtain ⟨i1, i2, i3, i4, i5, i6, i7⟩ := I
      have frρ : fr_a as_CX as_GX σ ρ := fr_tr fr (fr_up i1 (by simp) (by simp))
      have nx : ∀ (ρ2 : fb_S), fr_a [36] [105] ρ ρ2 → (∀ j, 0 ≤ j → j < 60 → ρ2.2 36 j = ly_st π (ρ.2 36) j) → (∀ j, 0 ≤ j → j < 60 → ρ2.2 36 j = ly_n π (n + 1) j) ∧ as_C π ρ2 ∧ fr_a as_CX as_GX σ ρ2 := by
        intro ρ2 fr2 h2
        have hn : ∀ j, 0 ≤ j → j < 60 → ρ2.2 36 j = ly_n π (n + 1) j := by
          intro j j0 j1
          rw [h2 j j0 j1, e36]
          by_cases lt : j < π.1 42
          · exact ly_st_congr hP hg j0 lt (fun i i0 i1 => h36 i i0 (by omega))
          · rw [ly_st_n (fun z => lt z.1.2), h36 j j0 j1, ly_n_out _ (fun z => lt z.2), ly_n_out _ (fun z => lt z.2)]
        obtain ⟨-, -, hpg, hF2, hL, hA2, hT⟩ := C2
        have ok : fr_ok [36] [105] := by unfold fr_ok; simp
        refine ⟨hn, ⟨hP, hg, hpg.fr ok fr2, iv_Fr_fr hF2 fr2 (by simp) (by omega), fun j j0 j1 => by rw [hn j j0 j1]; exact ly_n_v _ _, ?_, ?_⟩, fr_tr frρ (fr_up fr2 (by simp) (by simp))⟩
        · rw [fr2.2 33 (by simp)]; exact hA2
        · rw [fr2.2 35 (by simp)]; exact hT
      apply ct_lengthen hP hg C2.2.2.1 C2.2.2.2.2.1 (by rw [e36]; exact i4) (by rw [e36]; exact i6) (by rw [e105, h105, e36])
      · intro ρ2 fr2 h2 h3 h4
        obtain ⟨hn, C3, fr3⟩ := nx ρ2 fr2 h2
        have hfx : ly_n π (n + 1) = ly_n π n := by
          refine ly_n_fix (fun j j0 j1 => ?_)
          rw [← hn j j0 (by omega), h2 j j0 (by omega), h4 j j0 j1, e36, h36 j j0 (by omega)]
        rw [show ((n : Int) + 1) = ((n + 1 : Nat) : Int) by omega]
        refine ih (n + 1) 0 ρ2 (by omega) (Or.inl rfl) fr3 C3 hn h3 (fun q => absurd q (by decide)) (fun _ => ⟨?_, fun j j0 j1 => ?_⟩)
        · show ly_st π (ly_n π (n + 1)) = _
          rw [hfx]
          exact hfx
        · rw [fr2.2 33 (by simp), i4 j j0 j1, hfx]
          exact (ly_congr j0 (fun i i0 i1 => h36 i i0 (by omega))).1
      · intro ρ2 fr2 h2 h3 h4
        obtain ⟨hn, C3, fr3⟩ := nx ρ2 fr2 h2
        rw [show ((n : Int) + 1) = ((n + 1 : Nat) : Int) by omega]
        refine ih (n + 1) 1 ρ2 (by omega) (Or.inr rfl) fr3 C3 hn h3 (fun _ => ?_) (fun q => absurd q (by decide))
        have := h1 (by omega)
        omega
  have ok0 : fr_ok [35, 36] [] := by unfold fr_ok; simp
  have okg : fr_ok [35, 36] [105] := by unfold fr_ok; simp
  have fr1 : fr_a [35, 36] [105] σ (fb_sg ρ0 105 0) := fr_sg (fr_up f0 (by simp) (by simp)) (by decide)
  refine loop 61 0 1 _ rfl (Or.inr rfl) (fr_up fr1 (by simp) (by simp)) ⟨hP, hg, g.fr okg fr1, iv_Fr_fr hF fr1 (by simp) (by omega), fun j j0 j1 => Or.inl (z0 j j0 j1), ?_, t0⟩ z0 ?_ (fun _ => ?_) (fun q => absurd q (by decide))
  · rw [fr1.2 33 (by simp)]; exact hA33
  · have e : cn ((fb_sg ρ0 105 0).2 36) 60 = cn (fun _ => 0) 60 := cn_eq 60 (fun j j0 j1 => z0 j j0 (by omega))
    rw [e]
    rfl
  · exact Int.le_refl _
end ASM
