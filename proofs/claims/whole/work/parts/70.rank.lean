/-! ranks, and bases that have settled -/
noncomputable def rk_p (c : Int → Int → Prop) (g : Int) (x : Int) : Bool := @decide (gr_R c x g) (Classical.propDecidable _)
theorem rk_t {c : Int → Int → Prop} {g x : Int} : rk_p c g x = true ↔ gr_R c x g := by
  unfold rk_p
  exact @decide_eq_true_iff (gr_R c x g) (Classical.propDecidable _)
noncomputable def rk (c : Int → Int → Prop) (g : Int) : Nat := gr_cnt (rk_p c g) 6
theorem rk_lt {c : Int → Int → Prop} (hin : ∀ f g, c f g → (0 ≤ f ∧ f < 6) ∧ (0 ≤ g ∧ g < 6)) (hno : ¬ ∃ f, 0 ≤ f ∧ f < 6 ∧ gr_R c f f) {f g : Int} (h : c f g) : rk c f < rk c g := by
  have hi := hin f g h
  refine gr_cnt_lt _ _ (fun x hx => ?_) (x := f) (fun hx => ?_) ?_ hi.1.1 6 hi.1.2
  · rw [rk_t] at hx ⊢
    exact gr_step hx h
  · rw [rk_t] at hx
    exact hno ⟨f, hi.1.1, hi.1.2, hx⟩
  · rw [rk_t]
    exact gr_one h
theorem rk_5 {c : Int → Int → Prop} (hno : ¬ ∃ f, 0 ≤ f ∧ f < 6 ∧ gr_R c f f) {g : Int} (g0 : 0 ≤ g) (g6 : g < 6) : rk c g ≤ 5 := by
  have h1 := gr_cnt_lt (rk_p c g) (fun _ => true) (fun _ _ => rfl) (x := g) (fun hx => hno ⟨g, g0, g6, rk_t.mp hx⟩) rfl g0 6 g6
  have h2 := gr_cnt_le (fun _ => true) 6
  unfold rk
  omega
theorem bs_up1 (C F : Int → Int) (n : Nat) (x : Int) : bs_n C F n x ≤ bs_n C F (n + 1) x := by
  rw [bs_s C F n x (f := ((n % 36 : Nat) : Int) / 6) (g := ((n % 36 : Nat) : Int) % 6) (by omega) (by omega) (by omega)]
  split
  · next h => rw [h.2]; omega
  · exact Int.le_refl _
theorem bs_up (C F : Int → Int) (n : Nat) (x : Int) : ∀ m : Nat, bs_n C F n x ≤ bs_n C F (n + m) x
  | 0 => Int.le_refl _
  | m + 1 => Int.le_trans (bs_up C F n x m) (bs_up1 C F (n + m) x)
theorem bs_le (C F : Int → Int) {n m : Nat} (h : n ≤ m) (x : Int) : bs_n C F n x ≤ bs_n C F m x := by
  have := bs_up C F n x (m - n)
  rw [show n + (m - n) = m by omega] at this
  exact this
/-- where f's base stands still, its edge is heeded within a round -/
theorem bs_edge (C F : Int → Int) {t : Nat} {f g : Int} (f0 : 0 ≤ f) (f6 : f < 6) (g0 : 0 < g) (g6 : g < 6) (hc : ¬ C (6 * f + g) = 0) (hst : ∀ n, 36 * t ≤ n → bs_n C F n f = bs_n C F (36 * t) f) {n : Nat} (hn : 36 * (t + 1) ≤ n) : bs_n C F n f + F f ≤ bs_n C F n g := by
  have e : ((((36 * t + (6 * f + g).toNat) % 36 : Nat)) : Int) = 6 * f + g := by omega
  have h1 : bs_n C F (36 * t + (6 * f + g).toNat) f + F f ≤ bs_n C F (36 * t + (6 * f + g).toNat + 1) g := by
    rw [bs_s C F _ g e (by omega) g6]
    split
    · exact Int.le_refl _
    · next h =>
      by_cases q : bs_n C F (36 * t + (6 * f + g).toNat) g < bs_n C F (36 * t + (6 * f + g).toNat) f + F f
      · exact absurd ⟨⟨hc, g0, q⟩, rfl⟩ h
      · omega
  have h2 := bs_le C F (n := 36 * t + (6 * f + g).toNat + 1) (m := n) (by omega) g
  have h3 := hst (36 * t + (6 * f + g).toNat) (by omega)
  have h4 := hst n (by omega)
  omega
theorem bs_still (C F : Int → Int) {r : Int → Nat} (hr : ∀ f g, 0 ≤ f → f < 6 → 0 ≤ g → g < 6 → ¬ C (6 * f + g) = 0 → r f < r g) : ∀ (t : Nat) (x : Int), 0 ≤ x → x < 6 → r x ≤ t → ∀ n, 36 * t ≤ n → bs_n C F n x = bs_n C F (36 * t) x := by
  intro t
  have keep : ∀ (n0 : Nat) (x : Int), 0 ≤ x → x < 6 → (∀ n, n0 ≤ n → ∀ f, 0 ≤ f → f < 6 → 0 < x → ¬ C (6 * f + x) = 0 → bs_n C F n f + F f ≤ bs_n C F n x) → ∀ m : Nat, bs_n C F (n0 + m) x = bs_n C F n0 x := by
    intro n0 x x0 x6 hk m
    induction m with
    | zero => rfl
    | succ m ih =>
      rw [← ih]
      show bs_n C F (n0 + m + 1) x = bs_n C F (n0 + m) x
      rw [bs_s C F (n0 + m) x (f := (((n0 + m) % 36 : Nat) : Int) / 6) (g := (((n0 + m) % 36 : Nat) : Int) % 6) (by omega) (by omega) (by omega)]
      split
      · next h =>
        exfalso
        obtain ⟨⟨a1, a2, a3⟩, a4⟩ := h
        have := hk (n0 + m) (by omega) ((((n0 + m) % 36 : Nat) : Int) / 6) (by omega) (by omega) (by omega) (by rw [a4]; exact a1)
        rw [a4] at this
        omega
      · rfl
  have keep2 : ∀ (n0 : Nat) (x : Int), 0 ≤ x → x < 6 → (∀ n, n0 ≤ n → ∀ f, 0 ≤ f → f < 6 → 0 < x → ¬ C (6 * f + x) = 0 → bs_n C F n f + F f ≤ bs_n C F n x) → ∀ n, n0 ≤ n → bs_n C F n x = bs_n C F n0 x := by
    intro n0 x x0 x6 hk n hn
    have := keep n0 x x0 x6 hk (n - n0)
    rw [show n0 + (n - n0) = n by omega] at this
    exact this
  induction t with
  | zero =>
    intro x x0 x6 hx
    refine keep2 _ x x0 x6 (fun n _ f f0 f6 _ hc => ?_)
    have := hr f x f0 f6 x0 x6 hc
    omega
  | succ t ih =>
    intro x x0 x6 hx
    refine keep2 _ x x0 x6 (fun n hn f f0 f6 xp hc => ?_)
    have h1 := hr f x f0 f6 x0 x6 hc
    exact bs_edge C F f0 f6 xp x6 hc (ih f f0 f6 (by omega)) hn
theorem iv_settled {π : fb_S} (hno : ¬ iv_rec π) {f g : Int} (h : iv_c π f g) (g0 : 0 < g) : iv_bs π f + iv_fs π f ≤ iv_bs π g := by
  have hi := iv_c_in f g h
  have hr : ∀ a b, 0 ≤ a → a < 6 → 0 ≤ b → b < 6 → ¬ iv_C π (6 * a + b) = 0 → rk (iv_c π) a < rk (iv_c π) b := by
    intro a b a0 a6 b0 b6 hc
    refine rk_lt iv_c_in hno ?_
    have := iv_C_01 π (6 * a + b)
    rw [show (6 * a + b) / 6 = a by omega, show (6 * a + b) % 6 = b by omega] at this
    exact Classical.byContradiction (fun q => hc (this.2 q))
  have hc : ¬ iv_C π (6 * f + g) = 0 := by
    have := iv_C_01 π (6 * f + g)
    rw [show (6 * f + g) / 6 = f by omega, show (6 * f + g) % 6 = g by omega] at this
    rw [this.1 h]
    decide
  exact bs_edge (iv_C π) (iv_fs π) (t := 5) hi.1.1 hi.1.2 g0 hi.2.2 hc (bs_still (iv_C π) (iv_fs π) hr 5 f hi.1.1 hi.1.2 (rk_5 hno hi.1.1 hi.1.2)) (n := 216) (by omega)
