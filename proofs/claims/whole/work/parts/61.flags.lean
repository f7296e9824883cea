/-! long branches, step by step -/
section FLAG
variable {E : fb_E} {π σ τ : fb_S} {L L' : Int → Int} {k : Int} {Q : Int → fb_S → Prop}
theorem ly_b_congr (k0 : 0 ≤ k) (h : ∀ j : Int, 0 ≤ j → j < k → L j = L' j) : ly_b π L k = ly_b π L' k := by
  unfold ly_b
  rw [(ly_congr k0 h).1, (ly_congr k0 h).2.2]
theorem ly_c_congr (hP : iv_P π) (hg : iv_good π) (k0 : 0 ≤ k) (k1 : k < π.1 42) (h : ∀ j : Int, 0 ≤ j → j < π.1 42 → L j = L' j) : ly_c π L k = ly_c π L' k := by
  unfold ly_c
  rw [ly_b_congr k0 (fun j j0 j1 => h j j0 (by omega)), h k k0 k1]
  by_cases ho : π.2 17 k = 10 ∨ π.2 17 k = 11 ∨ π.2 17 k = 12 ∨ π.2 17 k = 13
  · have := ly_gi_in hP hg k0 k1 ho
    rw [(ly_congr this.1 (fun j j0 j1 => h j j0 (by omega))).1]
  · unfold ly_it
    exact it_in_a ho
theorem ly_bt_congr (hP : iv_P π) (hg : iv_good π) {m : Int} {B : Int → Int} (h : ∀ j : Int, 0 ≤ j → j < π.1 42 → L j = L' j) (hk : k ≤ π.1 42) (hb : ly_bt π L m B k) : ly_bt π L' m B k := by
  intro j j0 j1 i b hi hm
  have e := ly_congr (π := π) (L := L) (L' := L') j0 (fun i i0 i1 => h i i0 (by omega))
  have e2 := ly_c_congr hP hg j0 (by omega) h
  rw [← e.2.2, ← e2] at hi
  rw [← e.1] at hm ⊢
  exact hb j j0 j1 i b hi hm
theorem as_LI_congr (hP : iv_P π) (hg : iv_good π) (h : ∀ j : Int, 0 ≤ j → j < π.1 42 → L j = L' j) (k0 : 0 ≤ k) (hk : k ≤ π.1 42) (I : as_LI π σ L k τ) : as_LI π σ L' k τ := by
  obtain ⟨i1, i2, i3, i4, i5, i6, i7⟩ := I
  have e : ∀ j, 0 ≤ j → j ≤ π.1 42 → ly_a π L j = ly_a π L' j ∧ ly_o π L j = ly_o π L' j ∧ ly_i π L j = ly_i π L' j := fun j j0 j1 => ly_congr j0 (fun i i0 i1 => h i i0 (by omega))
  refine ⟨i1, by rw [i2, (e k k0 hk).1], fun q => ⟨by rw [(i3 q).1, (e k k0 hk).2.1], (i3 q).2⟩, fun j j0 j1 => by rw [i4 j j0 j1, (e j j0 (by omega)).1], i5, fun j j0 j1 ho => by rw [i6 j j0 j1 ho, ly_b_congr j0 (fun i i0 i1 => h i i0 (by omega))], fun old => ly_bt_congr hP hg h hk (i7 (fun j j0 j1 => by rw [old j j0 j1, (e j j0 (by omega)).1]))⟩
def ly_far (π : fb_S) (L : Int → Int) (k : Int) : Prop := (π.2 17 k = 11 ∨ π.2 17 k = 12) ∧ ¬ (-128 ≤ ly_a π L (ly_gi π k) - (ly_b π L k + 2) ∧ ly_a π L (ly_gi π k) - (ly_b π L k + 2) ≤ 127)
noncomputable def ly_st (π : fb_S) (L : Int → Int) : Int → Int := fun k => @ite _ ((0 ≤ k ∧ k < π.1 42) ∧ L k = 0 ∧ ly_far π L k) (Classical.propDecidable _) 1 (L k)
noncomputable def ly_n (π : fb_S) : Nat → Int → Int
  | 0 => fun _ => 0
  | n + 1 => ly_st π (ly_n π n)
theorem ly_st_y (h : (0 ≤ k ∧ k < π.1 42) ∧ L k = 0 ∧ ly_far π L k) : ly_st π L k = 1 := if_pos h
theorem ly_st_n (h : ¬ ((0 ≤ k ∧ k < π.1 42) ∧ L k = 0 ∧ ly_far π L k)) : ly_st π L k = L k := if_neg h
theorem ly_far_congr (hP : iv_P π) (hg : iv_good π) (k0 : 0 ≤ k) (k1 : k < π.1 42) (h : ∀ j : Int, 0 ≤ j → j < π.1 42 → L j = L' j) : ly_far π L k ↔ ly_far π L' k := by
  unfold ly_far
  by_cases ho : π.2 17 k = 11 ∨ π.2 17 k = 12
  · have := ly_gi_in hP hg k0 k1 (by omega)
    rw [(ly_congr this.1 (fun j j0 j1 => h j j0 (by omega))).1, ly_b_congr k0 (fun j j0 j1 => h j j0 (by omega))]
  · exact ⟨fun q => absurd q.1 ho, fun q => absurd q.1 ho⟩
theorem ly_st_congr (hP : iv_P π) (hg : iv_good π) (k0 : 0 ≤ k) (k1 : k < π.1 42) (h : ∀ j : Int, 0 ≤ j → j < π.1 42 → L j = L' j) : ly_st π L k = ly_st π L' k := by
  by_cases q : L k = 0 ∧ ly_far π L k
  · rw [ly_st_y ⟨⟨k0, k1⟩, q⟩, ly_st_y ⟨⟨k0, k1⟩, by rw [← h k k0 k1]; exact q.1, (ly_far_congr hP hg k0 k1 h).mp q.2⟩]
  · rw [ly_st_n (fun z => q z.2), ly_st_n (fun z => q ⟨by rw [h k k0 k1]; exact z.2.1, (ly_far_congr hP hg k0 k1 h).mpr z.2.2⟩), h k k0 k1]
theorem ly_n_v (n : Nat) (k : Int) : ly_n π n k = 0 ∨ ly_n π n k = 1 := by
  induction n with
  | zero => exact Or.inl rfl
  | succ n ih =>
    show ly_st π (ly_n π n) k = 0 ∨ ly_st π (ly_n π n) k = 1
    by_cases q : (0 ≤ k ∧ k < π.1 42) ∧ ly_n π n k = 0 ∧ ly_far π (ly_n π n) k
    · rw [ly_st_y q]; exact Or.inr rfl
    · rw [ly_st_n q]; exact ih
theorem ly_n_out (n : Nat) (h : ¬ (0 ≤ k ∧ k < π.1 42)) : ly_n π n k = 0 := by
  induction n with
  | zero => rfl
  | succ n ih =>
    show ly_st π (ly_n π n) k = 0
    rw [ly_st_n (fun q => h q.1)]; exact ih
theorem ly_n_fix {n : Nat} (h : ∀ k, 0 ≤ k → k < π.1 42 → ly_n π (n + 1) k = ly_n π n k) : ly_n π (n + 1) = ly_n π n := by
  funext k
  by_cases q : 0 ≤ k ∧ k < π.1 42
  · exact h k q.1 q.2
  · rw [ly_n_out _ q, ly_n_out _ q]
theorem ly_n_after {n : Nat} (h : ly_n π (n + 1) = ly_n π n) : ∀ m, ly_n π (n + m) = ly_n π n
  | 0 => rfl
  | m + 1 => by
    show ly_st π (ly_n π (n + m)) = _
    rw [ly_n_after h m]
    exact h
/-- where it stands still, it is one -/
theorem ly_n_uniq {n m : Nat} (h1 : ly_n π (n + 1) = ly_n π n) (h2 : ly_n π (m + 1) = ly_n π m) : ly_n π n = ly_n π m := by
  rcases Nat.le_total n m with h | h
  · have := ly_n_after h1 (m - n)
    rw [show n + (m - n) = m by omega] at this
    exact this.symm
  · have := ly_n_after h2 (n - m)
    rw [show m + (n - m) = n by omega] at this
    exact this
/-- sums -/
def cn (F : Int → Int) : Nat → Int
  | 0 => 0
  | n + 1 => cn F n + F n
theorem cn_eq {F G : Int → Int} : ∀ n : Nat, (∀ j : Int, 0 ≤ j → j < n → F j = G j) → cn F n = cn G n
  | 0, _ => rfl
  | n + 1, h => by
    simp only [cn]
    rw [cn_eq n (fun j j0 j1 => h j j0 (by omega)), h n (by omega) (by omega)]
theorem cn_01 {F : Int → Int} : ∀ n : Nat, (∀ j : Int, 0 ≤ j → j < n → F j = 0 ∨ F j = 1) → 0 ≤ cn F n ∧ cn F n ≤ n
  | 0, _ => by simp [cn]
  | n + 1, h => by
    have ih := cn_01 n (fun j j0 j1 => h j j0 (by omega))
    have := h n (by omega) (by omega)
    simp only [cn]
    omega
theorem cn_up {F G : Int → Int} {k x : Int} (k0 : 0 ≤ k) (hx : G k = F k + x) (h : ∀ j, j ≠ k → G j = F j) : ∀ n : Nat, k < n → cn G n = cn F n + x
  | 0, h1 => by omega
  | n + 1, h1 => by
    simp only [cn]
    by_cases e : (n : Int) = k
    · rw [e, hx, cn_eq (F := G) (G := F) n (fun j j0 j1 => h j (by omega))]
      omega
    · rw [h n e, cn_up k0 hx h n (by omega)]
      omega
theorem ct_reaches (k : Int) (hk : 0 ≤ k ∧ k < 60) (ho : 0 ≤ σ.2 17 k ∧ σ.2 17 k ≤ 15) (hw : 0 ≤ σ.2 16 k ∧ σ.2 16 k < 6) (hgi : 0 ≤ σ.2 14 (σ.2 16 k) + iv_tg σ k ∧ σ.2 14 (σ.2 16 k) + iv_tg σ k < 60) (d : Int) (hd : d = σ.2 33 (σ.2 14 (σ.2 16 k) + iv_tg σ k) - (σ.2 34 k + 2)) (hr : -2147483648 ≤ d ∧ d < 2147483648) (h1 : (-128 ≤ d ∧ d ≤ 127) → Q 1 σ) (h0 : ¬ (-128 ≤ d ∧ d ≤ 127) → Q 0 σ) : fb_V E fb_As_reachesGoal 0 [.inr 3, .inl k, .inr 999, .inr 999] [] σ Q := by
  apply As_reachesGoal_b0
  refine ⟨hk, ?_⟩
  apply ct_goalOf k hk ho hw
  rw [← hd]
  exact ⟨hgi, hr, fun q => h0 (by omega), fun q => ⟨fun q2 => h0 (by omega), fun q2 => h1 (by omega)⟩⟩
/-- lengthen -/
theorem ct_lengthen (hP : iv_P π) (hg : iv_good π) (g : pg π σ) (hL : ∀ j, 0 ≤ j → j < 60 → σ.2 36 j = 0 ∨ σ.2 36 j = 1) (h33 : ∀ j, 0 ≤ j → j < π.1 42 → σ.2 33 j = ly_a π (σ.2 36) j) (h34 : ∀ j, 0 ≤ j → j < π.1 42 → (π.2 17 j = 11 ∨ π.2 17 j = 12) → σ.2 34 j = ly_b π (σ.2 36) j) (hc : σ.1 105 = cn (σ.2 36) 60)
    (k0 : ∀ ρ, fr_a [36] [105] σ ρ → (∀ j, 0 ≤ j → j < 60 → ρ.2 36 j = ly_st π (σ.2 36) j) → ρ.1 105 = cn (ρ.2 36) 60 → (∀ j, 0 ≤ j → j < π.1 42 → ly_st π (σ.2 36) j = σ.2 36 j) → Q 0 ρ)
    (k1 : ∀ ρ, fr_a [36] [105] σ ρ → (∀ j, 0 ≤ j → j < 60 → ρ.2 36 j = ly_st π (σ.2 36) j) → ρ.1 105 = cn (ρ.2 36) 60 → σ.1 105 + 1 ≤ ρ.1 105 → Q 1 ρ) :
    fb_V E fb_As_lengthenBranches 0 [.inr 3, .inr 999, .inr 999, .inr 999] [] σ Q := by
  have hA := hP.1
  unfold iv_A at hA
  have hc60 := cn_01 (F := σ.2 36) 60 (fun j j0 j1 => hL j j0 (by omega))
  have ok : fr_ok [36] [105] := by unfold fr_ok; simp
  apply As_lengthenBranches_b0
  have loop := lp_st (P := fun v τ => fb_V E fb_As_lengthenBranches 7 [.inr 3, .inl (σ.1 105), .inl v, .inr 999] [] τ Q)
    (I := fun v τ => fr_a [36] [105] σ τ ∧ (∀ j, 0 ≤ j → j < v → τ.2 36 j = ly_st π (σ.2 36) j) ∧ (∀ j, v ≤ j → τ.2 36 j = σ.2 36 j) ∧ τ.1 105 = cn (τ.2 36) 60 ∧ σ.1 105 ≤ τ.1 105 ∧ (τ.1 105 = σ.1 105 → ∀ j, 0 ≤ j → j < v → ly_st π (σ.2 36) j = σ.2 36 j) ∧ τ.1 105 ≤ 60) (N := π.1 42) ?_ ?_
  · exact loop 0 σ (by omega) (by omega) ⟨fr_rf _ _ _, fun j j0 j1 => by omega, fun j _ => rfl, hc, Int.le_refl _, fun _ j j0 j1 => by omega, by omega⟩
  · intro k τ k0' k1' I ih
    obtain ⟨i1, i2, i3, i4, i5, i6, i7⟩ := I
    have gt : pg π τ := g.fr ok i1
    have hk := iv_k hP k0' k1'
    have e36 : τ.2 36 k = σ.2 36 k := i3 k (Int.le_refl _)
    have hLk := hL k k0' (by omega)
    have skip : ¬ (σ.2 36 k = 0 ∧ ly_far π (σ.2 36) k) → fb_V E fb_As_lengthenBranches 7 [.inr 3, .inl (σ.1 105), .inl (k + 1), .inr 999] [] τ Q := by
      intro hn
      have es : ly_st π (σ.2 36) k = σ.2 36 k := ly_st_n (fun z => hn z.2)
      refine ih τ ⟨i1, fun j j0 j1 => ?_, fun j j1 => i3 j (by omega), i4, i5, fun q j j0 j1 => ?_, i7⟩
      · by_cases e : j = k
        · rw [e, es, e36]
        · exact i2 j j0 (by omega)
      · by_cases e : j = k
        · rw [e, es]
        · exact i6 q j j0 (by omega)
    have set1 : σ.2 36 k = 0 → ly_far π (σ.2 36) k → fb_V E fb_As_lengthenBranches 7 [.inr 3, .inl (σ.1 105), .inl (k + 1), .inr 999] [] (fb_sg (fb_sm τ 36 k 1) 105 (τ.1 105 + 1)) Q := by
      intro hz hf
      have es : ly_st π (σ.2 36) k = 1 := ly_st_y ⟨⟨k0', k1'⟩, hz, hf⟩
      have e105 : (fb_sg (fb_sm τ 36 k 1) 105 (τ.1 105 + 1)).1 105 = τ.1 105 + 1 := rfl
      have e2 : ∀ j, (fb_sg (fb_sm τ 36 k 1) 105 (τ.1 105 + 1)).2 36 j = if j = k then 1 else τ.2 36 j := fun j => by rw [fb_sg2, fb_at]
      have hcn : cn ((fb_sg (fb_sm τ 36 k 1) 105 (τ.1 105 + 1)).2 36) 60 = cn (τ.2 36) 60 + 1 := cn_up k0' (by rw [e2, if_pos rfl, e36, hz]; rfl) (fun j hj => by rw [e2, if_neg hj]) 60 (by omega)
      have hle := cn_01 (F := (fb_sg (fb_sm τ 36 k 1) 105 (τ.1 105 + 1)).2 36) 60 (fun j j0 j1 => by
        rw [e2]
        split
        · exact Or.inr rfl
        · by_cases lt : j < k
          · rw [i2 j j0 lt]
            by_cases q : (0 ≤ j ∧ j < π.1 42) ∧ σ.2 36 j = 0 ∧ ly_far π (σ.2 36) j
            · rw [ly_st_y q]; exact Or.inr rfl
            · rw [ly_st_n q]; exact hL j j0 (by omega)
          · rw [i3 j (by omega)]; exact hL j j0 (by omega))
      refine ih _ ⟨fr_sg (fr_sm i1 (by decide)) (by decide), fun j j0 j1 => ?_, fun j j1 => ?_, by rw [e105, hcn, i4], by rw [e105]; omega, fun q => by rw [e105] at q; omega, by rw [e105]; omega⟩
      · rw [e2]
        split
        · next e => rw [e, es]
        · exact i2 j j0 (by omega)
      · rw [e2, if_neg (by omega)]; exact i3 j (by omega)
    have key : (π.2 17 k = 11 ∨ π.2 17 k = 12) → (-2147483648 ≤ τ.2 36 k ∧ τ.2 36 k < 2147483648) ∧ ((¬ τ.2 36 k = 0 → fb_V E fb_As_lengthenBranches 7 [.inr 3, .inl (σ.1 105), .inl (k + 1), .inr 999] [] τ Q) ∧ (τ.2 36 k = 0 → fb_V E fb_As_reachesGoal 0 [.inr 3, .inl k, .inr 999, .inr 999] [] τ (fun r8 s9 => (-2147483648 ≤ r8 ∧ r8 < 2147483648) ∧ ((¬ r8 = 0 → fb_V E fb_As_lengthenBranches 7 [.inr 3, .inl (σ.1 105), .inl (k + 1), .inr 999] [] s9 Q) ∧ (r8 = 0 → fb_V E fb_As_lengthenBranches 7 [.inr 3, .inl (σ.1 105), .inl (k + 1), .inr 999] [] (fb_sg (fb_sm s9 36 k 1) 105 ((s9.1 105) + 1)) Q))))) := by
      intro ho
      rw [e36]
      refine ⟨by omega, fun q => skip (fun z => q z.1), fun q => ?_⟩
      have hgi := ly_gi_in hP hg k0' k1' (by omega)
      have egi : ly_gi π k = π.2 14 (π.2 16 k) + iv_tg π k := by unfold ly_gi; rw [if_neg (by omega)]
      have eix : τ.2 14 (τ.2 16 k) + iv_tg τ k = ly_gi π k := by rw [gt.a 14 (by omega), gt.a 16 (by omega), gt.tg, egi]
      have hab := ly_a_b (π := π) (L := σ.2 36) hgi.1
      have hab2 := ly_a_b (π := π) (L := σ.2 36) k0'
      have hb2 : ly_b π (σ.2 36) k = ly_a π (σ.2 36) k + (em_B (ly_i π (σ.2 36) k) (ly_te π k)).length := rfl
      have hbl := em_B_len (ly_te π k) (ly_i π (σ.2 36) k)
      have htl : (ly_te π k).length ≤ 4 := by
        unfold ly_te it_te it_zero it_below
        repeat' split
        all_goals simp
      refine ct_reaches k (by omega) (by rw [gt.a 17 (by omega)]; exact hk.2.2.2.1.1) (by rw [gt.a 16 (by omega)]; omega) (by rw [eix]; omega) (ly_a π (σ.2 36) (ly_gi π k) - (ly_b π (σ.2 36) k + 2)) ?_ (by omega) (fun q2 => ?_) (fun q2 => ?_)
      · rw [eix, i1.2 33 (by simp), i1.2 34 (by simp), h33 _ hgi.1 hgi.2, h34 k k0' k1' ho]
      · exact ⟨by omega, fun _ => skip (fun z => z.2.2 q2), fun q3 => absurd q3 (by decide)⟩
      · exact ⟨by omega, fun q3 => absurd rfl q3, fun _ => set1 q ⟨ho, q2⟩⟩
    apply As_lengthenBranches_b7
    rw [gt.2.2.1, gt.a 17 (by omega)]
    refine ⟨by omega, by omega, fun q => by omega, fun _ => ⟨by omega, by have := hk.2.2.2.1.1; omega, fun q => key (Or.inl q), fun q => ⟨fun q2 => skip (fun z => ?_), fun q2 => key (Or.inr q2)⟩⟩⟩
    rcases z.2.1 with e | e
    · exact q e
    · exact q2 e
  · intro τ I
    obtain ⟨i1, i2, i3, i4, i5, i6, i7⟩ := I
    have gt : pg π τ := g.fr ok i1
    have all : ∀ j, 0 ≤ j → j < 60 → τ.2 36 j = ly_st π (σ.2 36) j := by
      intro j j0 j1
      by_cases lt : j < π.1 42
      · exact i2 j j0 lt
      · rw [i3 j (by omega), ly_st_n (fun z => lt z.1.2)]
    apply As_lengthenBranches_b7
    rw [gt.2.2.1]
    refine ⟨by omega, by omega, fun _ => ⟨by omega, by omega, fun q => k0 τ i1 all i4 (i6 (by omega)), fun q => k1 τ i1 all i4 (by omega)⟩, fun q => by omega⟩
end FLAG
