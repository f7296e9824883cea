/-! recursion, in the reference: sets of functions as bits -/
def gb (n : Nat) (j : Int) : Prop := n / 2 ^ j.toNat % 2 = 1
theorem gb_t (n : Nat) (j : Int) : gb n j ↔ n.testBit j.toNat = true := by
  unfold gb
  rw [Nat.testBit_eq_decide_div_mod_eq]
  simp
theorem gb_or (n m : Nat) (j : Int) : gb (n ||| m) j ↔ gb n j ∨ gb m j := by
  rw [gb_t, gb_t, gb_t, Nat.testBit_or]
  simp
theorem gb_pow (i j : Int) (hi : 0 ≤ i) (hj : 0 ≤ j) : gb (2 ^ i.toNat) j ↔ i = j := by
  rw [gb_t, Nat.testBit_two_pow]
  simp
  omega
theorem gb_0 (j : Int) : ¬ gb 0 j := by unfold gb; simp
theorem gb_int (n t : Nat) : ((n : Int) / 2 ^ t) % 2 = ((n / 2 ^ t % 2 : Nat) : Int) := by norm_cast
theorem gb_64 {n m : Nat} (h1 : n < 64) (h2 : m < 64) : n ||| m < 64 := Nat.or_lt_two_pow (n := 6) h1 h2
theorem gb_p64 (i : Int) (h0 : 0 ≤ i) (h6 : i < 6) : 2 ^ i.toNat < 64 := by
  have : (2 : Nat) ^ i.toNat < 2 ^ 6 := Nat.pow_lt_pow_right (by decide) (by omega)
  exact this
theorem gb_pi (i : Int) : (1 : Int) * 2 ^ i.toNat = ((2 ^ i.toNat : Nat) : Int) := by rw [Int.one_mul]; norm_cast
def gb_b (n : Nat) (j : Int) : Bool := decide (n / 2 ^ j.toNat % 2 = 1)
theorem gb_bt (n : Nat) (j : Int) : gb_b n j = true ↔ gb n j := by unfold gb_b gb; simp
/-- one pass: the set of those that the set calls -/
def gr_suc (c : Int → Int → Prop) (n : Nat) (y : Int) : Prop := ∃ x, 0 ≤ x ∧ x < 6 ∧ gb n x ∧ c x y
theorem cm_pass {E : fb_E} {σ : fb_S} {Q : Int → fb_S → Prop} {c : Int → Int → Prop} (hc : gr_mat c 48 σ) (rg f p : Int) (n s : Nat) (hn : n < 64) (hs : s < 64) (h : ∀ m : Nat, m < 64 → (∀ j, 0 ≤ j → j < 6 → (gb m j ↔ gr_suc c n j)) → fb_V E fb_Mo_rings 20 [.inr 5, .inl rg, .inl f, .inl ((n ||| m : Nat) : Int), .inl ((s ||| m : Nat) : Int), .inl (p + 1), .inr 999, .inr 999] [] σ Q) : fb_V E fb_Mo_rings 33 [.inr 5, .inl rg, .inl f, .inl (n : Int), .inl (s : Int), .inl p, .inl 0, .inl 0] [] σ Q := by
  have lp := lp_up (P := fun v => ∀ m : Nat, m < 64 → (∀ j, 0 ≤ j → j < 6 → (gb m j ↔ ∃ x, 0 ≤ x ∧ x < 6 ∧ 6 * x + j < v ∧ gb n x ∧ c x j)) → fb_V E fb_Mo_rings 33 [.inr 5, .inl rg, .inl f, .inl (n : Int), .inl (s : Int), .inl p, .inl (m : Int), .inl v] [] σ Q) (N := 36) ?_ ?_
  · exact lp 0 (by omega) (by omega) 0 (by omega) (fun j j0 j6 => ⟨fun q => absurd q (gb_0 j), fun ⟨x, x0, x6, xv, _⟩ => by omega⟩)
  · intro v v0 v1 ih m hm hmb
    have hv := hc (v / 6) (v % 6) (by omega) (by omega) (by omega) (by omega)
    rw [show 6 * (v / 6) + v % 6 = v by omega] at hv
    have w := iv_01_v hv
    apply Mo_rings_b33
    have same : ¬ (gb n (v / 6) ∧ c (v / 6) (v % 6)) → fb_V E fb_Mo_rings 33 [.inr 5, .inl rg, .inl f, .inl (n : Int), .inl (s : Int), .inl p, .inl (m : Int), .inl (v + 1)] [] σ Q := by
      intro hno
      refine ih m hm (fun j j0 j6 => (hmb j j0 j6).trans ⟨fun ⟨x, x0, x6, xv, q⟩ => ⟨x, x0, x6, by omega, q⟩, fun ⟨x, x0, x6, xv, q⟩ => ⟨x, x0, x6, ?_, q⟩⟩)
      by_cases e : 6 * x + j = v
      · have e1 : x = v / 6 := by omega
        have e2 : j = v % 6 := by omega
        rw [e1, e2] at q
        exact absurd q hno
      · omega
    refine ⟨by omega, fun h => by omega, fun _ => ⟨by omega, by omega, fun q => same (fun z => (iv_01_zero hv).mp q z.2), fun q => ?_⟩⟩
    have hcv := (iv_01_one hv).mp (by omega)
    rw [gb_int]
    refine ⟨by omega, by omega, by omega, by omega, fun q2 => same (fun z => q2 (by have := z.1; unfold gb at this; omega)), fun q2 => ⟨by omega, by omega, ?_⟩⟩
    have hp64 := gb_p64 (v % 6) (by omega) (by omega)
    rw [gb_pi, Int.toNat_natCast, Int.toNat_natCast]
    refine ⟨⟨Int.natCast_nonneg _, Int.lt_trans (Int.ofNat_lt.mpr hp64) (by decide)⟩, ih _ (gb_64 hm hp64) (fun j j0 j6 => ?_)⟩
    rw [gb_or, gb_pow _ _ (by omega) j0, hmb j j0 j6]
    have hg : gb n (v / 6) := by unfold gb; omega
    constructor
    · rintro (⟨x, x0, x6, xv, z⟩ | e)
      · exact ⟨x, x0, x6, by omega, z⟩
      · exact ⟨v / 6, by omega, by omega, by omega, hg, by rw [← e]; exact hcv⟩
    · rintro ⟨x, x0, x6, xv, z⟩
      by_cases e : 6 * x + j = v
      · exact Or.inr (by omega)
      · exact Or.inl ⟨x, x0, x6, by omega, z⟩
  · intro m hm hmb
    apply Mo_rings_b33
    rw [Int.toNat_natCast, Int.toNat_natCast, Int.toNat_natCast]
    refine ⟨by omega, fun _ => ⟨by omega, by omega, by omega, h m hm (fun j j0 j6 => (hmb j j0 j6).trans ⟨fun ⟨x, x0, x6, xv, q⟩ => ⟨x, x0, x6, q⟩, fun ⟨x, x0, x6, q⟩ => ⟨x, x0, x6, by omega, q⟩⟩)⟩, fun h => by omega⟩
theorem cm_rings {E : fb_E} {σ : fb_S} {Q : Int → fb_S → Prop} {c : Int → Int → Prop} (hc : gr_mat c 48 σ) (hin : ∀ f g, c f g → (0 ≤ f ∧ f < 6) ∧ (0 ≤ g ∧ g < 6)) (h1 : (∃ f, 0 ≤ f ∧ f < 6 ∧ gr_R c f f) → Q 1 σ) (h0 : (¬ ∃ f, 0 ≤ f ∧ f < 6 ∧ gr_R c f f) → Q 0 σ) : fb_V E fb_Mo_rings 0 [.inr 5, .inr 999, .inr 999, .inr 999, .inr 999, .inr 999, .inr 999, .inr 999] [] σ Q := by
  apply Mo_rings_b0
  have outer := lp_up (P := fun v => ∀ rg : Int, iv_01 (∃ f, 0 ≤ f ∧ f < v ∧ gr_R c f f) rg → fb_V E fb_Mo_rings 4 [.inr 5, .inl rg, .inl v, .inr 999, .inr 999, .inr 999, .inr 999, .inr 999] [] σ Q) (N := 6) ?_ ?_
  · exact outer 0 (by omega) (by omega) 0 ⟨fun ⟨f, f0, f1, _⟩ => by omega, fun _ => rfl⟩
  · intro f f0 f6 ih rg hrg
    have wr := iv_01_v hrg
    apply Mo_rings_b4
    refine ⟨by omega, fun h => by omega, fun _ => ⟨by omega, ?_⟩⟩
    rw [gb_pi]
    have pass := lp_up (P := fun p => ∀ n s : Nat, n < 64 → s < 64 → gb n f → (∀ j, 0 ≤ j → j < 6 → gb s j → gb n j ∧ gr_R c f j) → (∀ j, 0 ≤ j → j < 6 → gb n j → j = f ∨ gr_R c f j) → ((p + 1 ≤ (gr_cnt (gb_b n) 6 : Int)) ∨ ((∀ x y, 0 ≤ x → x < 6 → gb n x → c x y → gb n y ∧ gb s y))) → fb_V E fb_Mo_rings 20 [.inr 5, .inl rg, .inl f, .inl (n : Int), .inl (s : Int), .inl p, .inr 999, .inr 999] [] σ Q) (N := 7) ?_ ?_
    · refine pass 0 (by omega) (by omega) (2 ^ f.toNat) 0 (gb_p64 f f0 f6) (by omega) ((gb_pow f f f0 f0).mpr rfl) (fun j _ _ q => absurd q (gb_0 j)) (fun j j0 _ q => Or.inl ((gb_pow f j f0 j0).mp q).symm) (Or.inl ?_)
      have : gr_cnt (fun _ => false) 6 < gr_cnt (gb_b (2 ^ f.toNat)) 6 := gr_cnt_lt _ _ (fun x hx => by simp at hx) (x := f) (by simp) ((gb_bt _ _).mpr ((gb_pow f f f0 f0).mpr rfl)) f0 6 (by omega)
      omega
    · intro p p0 p7 ih2 n s hn hs hf hsn hnr hJ
      apply Mo_rings_b20
      refine ⟨by omega, fun h => by omega, fun _ => ?_⟩
      apply cm_pass hc rg f p n s hn hs
      intro m hm hmb
      have suc : ∀ j, gr_suc c n j → gr_R c f j := by
        rintro j ⟨x, x0, x6, hx, hcx⟩
        rcases hnr x x0 x6 hx with e | e
        · rw [e] at hcx; exact gr_one hcx
        · exact gr_step e hcx
      refine ih2 (n ||| m) (s ||| m) (gb_64 hn hm) (gb_64 hs hm) ((gb_or _ _ _).mpr (Or.inl hf)) (fun j j0 j6 q => ?_) (fun j j0 j6 q => ?_) ?_
      · rcases (gb_or _ _ _).mp q with q | q
        · exact ⟨(gb_or _ _ _).mpr (Or.inl (hsn j j0 j6 q).1), (hsn j j0 j6 q).2⟩
        · exact ⟨(gb_or _ _ _).mpr (Or.inr q), suc j ((hmb j j0 j6).mp q)⟩
      · rcases (gb_or _ _ _).mp q with q | q
        · exact hnr j j0 j6 q
        · exact Or.inr (suc j ((hmb j j0 j6).mp q))
      · -- closed, or one more
        by_cases hcl : ∀ y, 0 ≤ y → y < 6 → gr_suc c n y → gb n y
        · refine Or.inr (fun x y x0 x6 hx hcx => ?_)
          have hy := (hin x y hcx).2
          have hnx : gb n x := by
            rcases (gb_or _ _ _).mp hx with q | q
            · exact q
            · exact hcl x x0 x6 ((hmb x x0 x6).mp q)
          have hsy : gr_suc c n y := ⟨x, x0, x6, hnx, hcx⟩
          have hmy := (hmb y hy.1 hy.2).mpr hsy
          exact ⟨(gb_or _ _ _).mpr (Or.inr hmy), (gb_or _ _ _).mpr (Or.inr hmy)⟩
        · refine Or.inl ?_
          have hex : ∃ y, 0 ≤ y ∧ y < 6 ∧ gr_suc c n y ∧ ¬ gb n y := by
            refine Classical.byContradiction (fun hne => hcl (fun y y0 y6 hy => Classical.byContradiction (fun hny => hne ⟨y, y0, y6, hy, hny⟩)))
          obtain ⟨y, y0, y6, hy, hny⟩ := hex
          rcases hJ with hJ | hJ
          · have : gr_cnt (gb_b n) 6 < gr_cnt (gb_b (n ||| m)) 6 := gr_cnt_lt (gb_b n) (gb_b (n ||| m)) (fun x hx => (gb_bt _ _).mpr ((gb_or _ _ _).mpr (Or.inl ((gb_bt _ _).mp hx)))) (x := y) (fun q => hny ((gb_bt _ _).mp q)) ((gb_bt _ _).mpr ((gb_or _ _ _).mpr (Or.inr ((hmb y y0 y6).mpr hy)))) y0 6 (by omega)
            omega
          · obtain ⟨x, x0, x6, hx, hcx⟩ := hy
            exact absurd (hJ x y x0 x6 hx hcx).1 hny
    · intro n s hn hs hf hsn hnr hJ
      have hcnt := gr_cnt_le (gb_b n) 6
      have hcl := hJ.resolve_left (by omega)
      have key : gb s f ↔ gr_R c f f := by
        constructor
        · exact fun q => (hsn f f0 f6 q).2
        · intro q
          have q2 := q (fun j => (0 ≤ j ∧ j < 6) ∧ gb s j) (fun x hx => ⟨(hin f x hx).2, (hcl f x f0 f6 hf hx).2⟩) (fun x y hx hxy => ⟨(hin x y hxy).2, (hcl x y hx.1.1 hx.1.2 (hsn x hx.1.1 hx.1.2 hx.2).1 hxy).2⟩)
          exact q2.2
      have nxt : ∀ r : Int, iv_01 (∃ g, 0 ≤ g ∧ g < f + 1 ∧ gr_R c g g) r → fb_V E fb_Mo_rings 4 [.inr 5, .inl r, .inl (f + 1), .inr 999, .inr 999, .inr 999, .inr 999, .inr 999] [] σ Q := ih
      have grow : (∃ g, 0 ≤ g ∧ g < f + 1 ∧ gr_R c g g) ↔ (∃ g, 0 ≤ g ∧ g < f ∧ gr_R c g g) ∨ gr_R c f f := by
        constructor
        · rintro ⟨g, g0, g1, q⟩
          by_cases e : g = f
          · rw [e] at q; exact Or.inr q
          · exact Or.inl ⟨g, g0, by omega, q⟩
        · rintro (⟨g, g0, g1, q⟩ | q)
          · exact ⟨g, g0, by omega, q⟩
          · exact ⟨f, f0, by omega, q⟩
      apply Mo_rings_b20
      rw [gb_int]
      refine ⟨by omega, fun _ => ⟨by rcases wr with e | e <;> rw [e] <;> decide, fun q => nxt 1 ⟨fun _ => rfl, fun q2 => absurd (grow.mpr (Or.inl ((iv_01_one hrg).mp (wr.resolve_left q)))) q2⟩, fun q => ⟨by omega, by omega, by omega, fun q2 => nxt 0 ⟨fun q3 => ?_, fun _ => rfl⟩, fun q2 => nxt 1 ⟨fun _ => rfl, fun q3 => absurd (grow.mpr (Or.inr (key.mp ?_))) q3⟩⟩⟩, fun h => by omega⟩
      · rcases grow.mp q3 with q4 | q4
        · exact absurd q4 ((iv_01_zero hrg).mp q)
        · have := key.mpr q4
          unfold gb at this
          omega
      · unfold gb; omega
  · intro rg hrg
    have wr := iv_01_v hrg
    apply Mo_rings_b4
    refine ⟨by omega, fun _ => ⟨wr, ?_⟩, fun h => by omega⟩
    rcases wr with e | e
    · rw [e]; exact h0 ((iv_01_zero hrg).mp e)
    · rw [e]; exact h1 ((iv_01_one hrg).mp e)
