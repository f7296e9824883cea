/-! who reaches whom: pure rows -/
/-- g is reached from f by one call or more -/
def gr_R (c : Int → Int → Prop) (f g : Int) : Prop := ∀ S : Int → Prop, (∀ x, c f x → S x) → (∀ x y, S x → c x y → S y) → S g
theorem gr_one {c : Int → Int → Prop} {f g : Int} (h : c f g) : gr_R c f g := fun _ h1 _ => h1 g h
theorem gr_step {c : Int → Int → Prop} {f g x : Int} (h : gr_R c f g) (h2 : c g x) : gr_R c f x := fun S h1 h3 => h3 g x (h S h1 h3) h2
theorem gr_tr {c : Int → Int → Prop} {f g x : Int} (h : gr_R c f g) (h2 : gr_R c g x) : gr_R c f x := fun S h1 h3 => h2 S (fun y hy => h3 g y (h S h1 h3) hy) h3
/-- a relation that holds the calls and is closed holds all that is reached -/
theorem gr_in {c r : Int → Int → Prop} (h1 : ∀ f g, c f g → r f g) (h2 : ∀ f x g, r f x → r x g → r f g) {f g : Int} (h : gr_R c f g) : r f g := h (fun x => r f x) (fun x hx => h1 f x hx) (fun x y hx hy => h2 f x y hx (h1 x y hy))
/-- one round of closing, by what lies between -/
def gr_w (r : Int → Int → Prop) (b : Int) : Int → Int → Prop := fun f g => r f g ∨ (r f b ∧ r b g)
theorem gr_w_col {r : Int → Int → Prop} {b f : Int} : gr_w r b f b ↔ r f b := ⟨fun h => h.elim id (fun h => h.1), Or.inl⟩
theorem gr_w_row {r : Int → Int → Prop} {b g : Int} : gr_w r b b g ↔ r b g := ⟨fun h => h.elim id (fun h => h.2), Or.inl⟩
theorem gr_w_tr {r : Int → Int → Prop} {b : Int} (h : ∀ x, 0 ≤ x → x < b → ∀ f g, r f x → r x g → r f g) : ∀ x, 0 ≤ x → x < b + 1 → ∀ f g, gr_w r b f x → gr_w r b x g → gr_w r b f g := by
  intro x h0 hx f g h1 h2
  by_cases e : x = b
  · subst e
    exact Or.inr ⟨gr_w_col.mp h1, gr_w_row.mp h2⟩
  · have hxb : x < b := by omega
    rcases h1 with h1 | ⟨h1, h3⟩ <;> rcases h2 with h2 | ⟨h2, h4⟩
    · exact Or.inl (h x h0 hxb f g h1 h2)
    · exact Or.inr ⟨h x h0 hxb f b h1 h2, h4⟩
    · exact Or.inr ⟨h1, h x h0 hxb b g h3 h2⟩
    · exact Or.inr ⟨h1, h4⟩
theorem gr_w_in {c r : Int → Int → Prop} {b : Int} (h : ∀ f g, r f g → gr_R c f g) : ∀ f g, gr_w r b f g → gr_R c f g := by
  intro f g h1
  rcases h1 with h1 | ⟨h1, h2⟩
  · exact h f g h1
  · exact gr_tr (h f b h1) (h b g h2)
/-- the relation between 'between' rounds -/
def gr_n (r : Int → Int → Prop) : Nat → Int → Int → Prop
  | 0 => r
  | n + 1 => gr_w (gr_n r n) n
theorem gr_n_tr (r : Int → Int → Prop) : ∀ n : Nat, ∀ x, 0 ≤ x → x < (n : Int) → ∀ f g, gr_n r n f x → gr_n r n x g → gr_n r n f g
  | 0, x, h0, hx, _, _, _, _ => by omega
  | n + 1, x, h0, hx, f, g, h1, h2 => gr_w_tr (gr_n_tr r n) x h0 (by omega) f g h1 h2
theorem gr_n_mono (r : Int → Int → Prop) : ∀ (n : Nat) (f g : Int), r f g → gr_n r n f g
  | 0, _, _, h => h
  | n + 1, f, g, h => Or.inl (gr_n_mono r n f g h)
theorem gr_n_in {c r : Int → Int → Prop} (h : ∀ f g, r f g → gr_R c f g) : ∀ n : Nat, ∀ f g, gr_n r n f g → gr_R c f g
  | 0 => h
  | n + 1 => gr_w_in (gr_n_in h n)
/-- all six rounds: just what is reached, where calls lie in 0 .. 5 -/
theorem gr_six {c : Int → Int → Prop} (hc : ∀ f g, c f g → (0 ≤ f ∧ f < 6) ∧ (0 ≤ g ∧ g < 6)) (f g : Int) : gr_n c 6 f g ↔ gr_R c f g := by
  refine ⟨gr_n_in (fun f g h => gr_one h) 6 f g, fun h => ?_⟩
  have hin : ∀ n f g, gr_n c n f g → (0 ≤ f ∧ f < 6) ∧ (0 ≤ g ∧ g < 6) := by
    intro n
    induction n with
    | zero => exact hc
    | succ n ih =>
      intro f g h
      rcases h with h | ⟨h1, h2⟩
      · exact ih f g h
      · exact ⟨(ih f _ h1).1, (ih _ g h2).2⟩
  exact gr_in (r := gr_n c 6) (gr_n_mono c 6) (fun f x g h1 h2 => gr_n_tr c 6 x ((hin 6 f x h1).2.1) ((hin 6 f x h1).2.2) f g h1 h2) h
/-! a rank: how many of 0 .. 5 reach it -/
def gr_cnt (p : Int → Bool) : Nat → Nat
  | 0 => 0
  | n + 1 => gr_cnt p n + (if p (n : Int) = true then 1 else 0)
theorem gr_cnt_le (p : Int → Bool) : ∀ n, gr_cnt p n ≤ n
  | 0 => Nat.le_refl 0
  | n + 1 => by
    have := gr_cnt_le p n
    simp only [gr_cnt]
    split <;> omega
theorem gr_cnt_mono (p q : Int → Bool) (h : ∀ x, p x = true → q x = true) : ∀ n, gr_cnt p n ≤ gr_cnt q n
  | 0 => Nat.le_refl 0
  | n + 1 => by
    have := gr_cnt_mono p q h n
    simp only [gr_cnt]
    by_cases hp : p (n : Int) = true
    · rw [if_pos hp, if_pos (h _ hp)]; omega
    · rw [if_neg hp]; split <;> omega
theorem gr_cnt_lt (p q : Int → Bool) (h : ∀ x, p x = true → q x = true) {x : Int} (hx : ¬ p x = true) (hq : q x = true) (h0 : 0 ≤ x) : ∀ n : Nat, x < (n : Int) → gr_cnt p n < gr_cnt q n
  | 0, hn => by omega
  | n + 1, hn => by
    simp only [gr_cnt]
    by_cases e : x = (n : Int)
    · have := gr_cnt_mono p q h n
      rw [if_neg (by rw [← e]; exact hx), if_pos (by rw [← e]; exact hq)]
      omega
    · have := gr_cnt_lt p q h hx hq h0 n (by omega)
      by_cases hp : p (n : Int) = true
      · rw [if_pos hp, if_pos (h _ hp)]; omega
      · rw [if_neg hp]; split <;> omega
