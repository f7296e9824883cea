/-! the items of each instruction, and the class's code of them -/
def it_2 (x : Int) (l0 l1 : em_I) : em_I := if x = 2 then l0 ++ l1 else l0
def it_set (z : Int → Int) (p : Int → Int → Int) (a c : Int) : em_I := it_2 (z a) [(0, 256 + c % 256), (1, p a 0)] [(0, 256 + c / 256 % 256), (1, p a 1)]
def it_move (z : Int → Int) (p : Int → Int → Int) (a b : Int) : em_I := it_2 (z a) [(0, p b 0), (1, p a 0)] [(0, p b 1), (1, p a 1)]
def it_comb (z : Int → Int) (p : Int → Int → Int) (n a b c : Int) : em_I := it_2 (z a) [(0, p b 0), (n, p c 0), (1, p a 0)] [(0, p b 1), (n, p c 1), (1, p a 1)]
def it_dbl (z : Int → Int) (p : Int → Int → Int) (a : Int) : em_I := it_2 (z a) [(7, p a 0)] [(8, p a 1)]
def it_idx (z : Int → Int) (p : Int → Int → Int) (t b : Int) : em_I := [(9, p b 0), (11, 256 + z t), (31, 134), (30, 1), (30, 176)]
def it_load (z : Int → Int) (p : Int → Int → Int) (a t : Int) : em_I := it_2 (z a) [(0, 512 + p t 0), (1, p a 0)] [(0, 256), (1, p a 1)]
def it_store (p : Int → Int → Int) (t c : Int) : em_I := [(0, p c 0), (1, 512 + p t 0)]
def it_zero (z : Int → Int) (p : Int → Int → Int) (a : Int) : em_I := if z a = 2 then [(0, p a 0), (5, p a 1)] else [(32, 0), (0, p a 0)]
def it_below (z : Int → Int) (p : Int → Int → Int) (a b : Int) : em_I := if z a = 2 ∨ z b = 2 then [(0, p a 0), (10, p b 0), (0, p a 1), (3, p b 1)] else [(0, p a 0), (10, p b 0)]
def it_par (p : Int → Int → Int) (zg pg a : Int) : em_I := if zg = 1 then [(0, p a 0), (1, pg)] else if zg = 2 then [(0, p a 0), (1, pg), (0, p a 1), (1, pg + 1)] else []
def it_res (z : Int → Int) (p : Int → Int → Int) (b : Int) : em_I := it_2 (z b) [(0, 126), (1, p b 0)] [(0, 127), (1, p b 1)]
def it_ret (p : Int → Int → Int) (a : Int) : em_I := [(0, p a 0), (1, 126), (0, p a 1), (1, 127), (20, 0)]
def it_out (z : Int → Int) (p : Int → Int → Int) (a : Int) : em_I := it_2 (z a) [(0, p a 0), (21, 0)] [(0, p a 1), (21, 0)]
theorem it_2_1 {x : Int} {l0 l1 : em_I} (h : ¬ x = 2) : it_2 x l0 l1 = l0 := if_neg h
theorem it_2_2 {x : Int} {l0 l1 : em_I} (h : x = 2) : it_2 x l0 l1 = l0 ++ l1 := if_pos h
theorem it_22 {x : Int} {l0 l1 m : em_I} (h : x = 2) (e : m = l0 ++ l1) : m = it_2 x l0 l1 := e.trans (it_2_2 h).symm
theorem it_21 {x : Int} {l0 l1 m : em_I} (h : ¬ x = 2) (e : m = l0) : m = it_2 x l0 l1 := e.trans (it_2_1 h).symm
section ASX
variable {E : fb_E} {σ τ : fb_S} {f : Int} {l : em_I} {Q : Int → fb_S → Prop}
theorem as_more {m m' : em_I} (h : as_cx σ f τ (l ++ m)) (e : m = m') : as_cx σ f τ (l ++ m') := e ▸ h
theorem as_asc {m n : em_I} (h : as_cx σ f τ ((l ++ m) ++ n)) : as_cx σ f τ (l ++ (m ++ n)) := by rw [List.append_assoc] at h; exact h
theorem as_rst (h : as_cx σ f τ l) (hl : l.length + 1 ≤ 40) : as_cx σ f (fb_sg τ 106 (-1)) (l ++ [(32, 0)]) := by
  refine as_add h (fun x hx => by simp at hx; rw [hx]; exact Int.le_refl 0) hl ?_
  exact as_R_h (as_R_nil τ) (-1)
/-- sizes of what an instruction may name -/
theorem as_scv {a : Int} (h : as_cx σ f τ l) (ha : iv_sc (iv_z σ f) a) : iv_z σ f a ≠ 0 ∧ (-2147483648 ≤ a ∧ a < 2147483648) ∧ (0 ≤ as_pt σ f a 0 ∧ as_pt σ f a 0 ≤ 256) ∧ (0 ≤ as_pt σ f a 1 ∧ as_pt σ f a 1 ≤ 256) := by
  have hne : iv_z σ f a ≠ 0 := by unfold iv_sc at ha; omega
  have hr := iv_sc_in hne
  have hb := h.2.2.1.1.2.1 f h.f6.1.1 h.f6.1.2
  exact ⟨hne, by omega, as_pt_in h.2.2.1 hne (by omega), as_pt_in h.2.2.1 hne (by omega)⟩
theorem ct_emitMove (h : as_cx σ f τ l) (hl : l.length ≤ 20) (a b : Int) (ha : iv_sc (iv_z σ f) a) (hb : iv_sc (iv_z σ f) b) (k : ∀ ρ, as_cx σ f ρ (l ++ it_move (iv_z σ f) (as_pt σ f) a b) → Q 0 ρ) : fb_V E fb_As_emitMove 0 [.inr 3, .inl a, .inl b, .inr 999] [] τ Q := by
  obtain ⟨na, ra, a0, a1⟩ := as_scv h ha
  obtain ⟨nb, rb, b0, b1⟩ := as_scv h hb
  have i2 : Nat.ble (l.length + 5) 40 = true := by rw [Nat.ble_eq]; omega
  have bl : ∀ m : em_I, m.length ≤ 10 → Nat.ble ((l ++ m).length + 1) 40 = true := fun m hm => by rw [Nat.ble_eq, List.length_append]; omega
  apply As_emitMove_b0
  apply As_emitMove_b2
  apply as_sz h ra
  have hz : iv_z σ f a = 1 ∨ iv_z σ f a = 2 := ha
  refine ⟨by omega, by omega, fun q => by omega, fun _ => ?_⟩
  apply as_part h nb (by omega)
  apply as_em h _ _ (by omega) (by omega) (by rw [Nat.ble_eq]; omega)
  intro ρ1 c1
  apply as_part c1 na (by omega)
  apply as_em c1 _ _ (by omega) (by omega) (bl [_] (by simp))
  intro ρ2 c2
  have c2 := as_asc c2
  rw [show (0 : Int) + 1 = 1 from rfl]
  apply As_emitMove_b2
  apply as_sz c2 ra
  refine ⟨by omega, by omega, fun q => k ρ2 (as_more c2 (it_21 (show ¬ iv_z σ f a = 2 by omega) rfl)), fun q => ?_⟩
  apply as_part c2 nb (by omega)
  apply as_em c2 _ _ (by omega) (by omega) (bl [_, _] (by simp))
  intro ρ3 c3
  have c3 := as_asc c3
  apply as_part c3 na (by omega)
  apply as_em c3 _ _ (by omega) (by omega) (bl [_, _, _] (by simp))
  intro ρ4 c4
  have c4 := as_asc c4
  rw [show (1 : Int) + 1 = 2 from rfl]
  apply As_emitMove_b2
  apply as_sz c4 ra
  exact ⟨by omega, by omega, fun _ => k ρ4 (as_more c4 (it_22 (show iv_z σ f a = 2 by omega) rfl)), fun q => by omega⟩
theorem ct_emitSet (h : as_cx σ f τ l) (hl : l.length ≤ 20) (a c : Int) (ha : iv_sc (iv_z σ f) a) (hc : 0 ≤ c ∧ c ≤ 65535) (k : ∀ ρ, as_cx σ f ρ (l ++ it_set (iv_z σ f) (as_pt σ f) a c) → Q 0 ρ) : fb_V E fb_As_emitSet 0 [.inr 3, .inl a, .inl c, .inr 999] [] τ Q := by
  obtain ⟨na, ra, a0, a1⟩ := as_scv h ha
  have bl : ∀ m : em_I, m.length ≤ 10 → Nat.ble ((l ++ m).length + 1) 40 = true := fun m hm => by rw [Nat.ble_eq, List.length_append]; omega
  have hz : iv_z σ f a = 1 ∨ iv_z σ f a = 2 := ha
  apply As_emitSet_b0
  apply As_emitSet_b2
  apply as_sz h ra
  refine ⟨by omega, by omega, fun q => by omega, fun _ => ⟨by omega, by omega, ?_⟩⟩
  rw [show c / 2 ^ (8 * (0 : Int)).toNat = c by simp]
  apply as_em h _ _ (by omega) (by omega) (by rw [Nat.ble_eq]; omega)
  intro ρ1 c1
  apply as_part c1 na (by omega)
  apply as_em c1 _ _ (by omega) (by omega) (bl [_] (by simp))
  intro ρ2 c2
  have c2 := as_asc c2
  rw [show (0 : Int) + 1 = 1 from rfl]
  apply As_emitSet_b2
  apply as_sz c2 ra
  refine ⟨by omega, by omega, fun q => k ρ2 (as_more c2 (it_21 (show ¬ iv_z σ f a = 2 by omega) rfl)), fun q => ⟨by omega, by omega, ?_⟩⟩
  rw [show (2 : Int) ^ (8 * (1 : Int)).toNat = 256 by decide]
  apply as_em c2 _ _ (by omega) (by omega) (bl [_, _] (by simp))
  intro ρ3 c3
  have c3 := as_asc c3
  apply as_part c3 na (by omega)
  apply as_em c3 _ _ (by omega) (by omega) (bl [_, _, _] (by simp))
  intro ρ4 c4
  have c4 := as_asc c4
  rw [show (1 : Int) + 1 = 2 from rfl]
  apply As_emitSet_b2
  apply as_sz c4 ra
  exact ⟨by omega, by omega, fun _ => k ρ4 (as_more c4 (it_22 (show iv_z σ f a = 2 by omega) rfl)), fun q => by omega⟩
theorem ct_emitCombine (h : as_cx σ f τ l) (hl : l.length ≤ 20) (n a b c : Int) (hn : 2 ≤ n ∧ n ≤ 6) (ha : iv_sc (iv_z σ f) a) (hb : iv_sc (iv_z σ f) b) (hc : iv_sc (iv_z σ f) c) (k : ∀ ρ, as_cx σ f ρ (l ++ it_comb (iv_z σ f) (as_pt σ f) n a b c) → Q 0 ρ) : fb_V E fb_As_emitCombine 0 [.inr 3, .inl n, .inl a, .inl b, .inl c, .inr 999] [] τ Q := by
  obtain ⟨na, ra, a0, a1⟩ := as_scv h ha
  obtain ⟨nb, rb, b0, b1⟩ := as_scv h hb
  obtain ⟨nc, rc, c0, c1⟩ := as_scv h hc
  have bl : ∀ m : em_I, m.length ≤ 10 → Nat.ble ((l ++ m).length + 1) 40 = true := fun m hm => by rw [Nat.ble_eq, List.length_append]; omega
  have hz : iv_z σ f a = 1 ∨ iv_z σ f a = 2 := ha
  apply As_emitCombine_b0
  apply As_emitCombine_b3
  apply as_sz h ra
  refine ⟨by omega, by omega, fun q => by omega, fun _ => ?_⟩
  apply as_part h nb (by omega)
  apply as_em h _ _ (by omega) (by omega) (by rw [Nat.ble_eq]; omega)
  intro ρ1 d1
  apply as_part d1 nc (by omega)
  apply as_em d1 _ _ (by omega) (by omega) (bl [_] (by simp))
  intro ρ2 d2
  have d2 := as_asc d2
  apply as_part d2 na (by omega)
  apply as_em d2 _ _ (by omega) (by omega) (bl [_, _] (by simp))
  intro ρ3 d3
  have d3 := as_asc d3
  rw [show (0 : Int) + 1 = 1 from rfl]
  apply As_emitCombine_b3
  apply as_sz d3 ra
  refine ⟨by omega, by omega, fun q => k ρ3 (as_more d3 (it_21 (show ¬ iv_z σ f a = 2 by omega) rfl)), fun q => ?_⟩
  apply as_part d3 nb (by omega)
  apply as_em d3 _ _ (by omega) (by omega) (bl [_, _, _] (by simp))
  intro ρ4 d4
  have d4 := as_asc d4
  apply as_part d4 nc (by omega)
  apply as_em d4 _ _ (by omega) (by omega) (bl [_, _, _, _] (by simp))
  intro ρ5 d5
  have d5 := as_asc d5
  apply as_part d5 na (by omega)
  apply as_em d5 _ _ (by omega) (by omega) (bl [_, _, _, _, _] (by simp))
  intro ρ6 d6
  have d6 := as_asc d6
  rw [show (1 : Int) + 1 = 2 from rfl]
  apply As_emitCombine_b3
  apply as_sz d6 ra
  exact ⟨by omega, by omega, fun _ => k ρ6 (as_more d6 (it_22 (show iv_z σ f a = 2 by omega) rfl)), fun q => by omega⟩
theorem ct_emitDouble (h : as_cx σ f τ l) (hl : l.length ≤ 20) (a : Int) (ha : iv_sc (iv_z σ f) a) (k : ∀ ρ, as_cx σ f ρ (l ++ it_dbl (iv_z σ f) (as_pt σ f) a) → Q 0 ρ) : fb_V E fb_As_emitDouble 0 [.inr 3, .inl a] [] τ Q := by
  obtain ⟨na, ra, a0, a1⟩ := as_scv h ha
  have bl : ∀ m : em_I, m.length ≤ 10 → Nat.ble ((l ++ m).length + 1) 40 = true := fun m hm => by rw [Nat.ble_eq, List.length_append]; omega
  apply As_emitDouble_b0
  apply as_part h na (by omega)
  apply as_em h _ _ (by omega) (by omega) (by rw [Nat.ble_eq]; omega)
  intro ρ1 c1
  apply as_wide c1 ra
  · intro w
    refine ⟨by omega, fun q => by omega, fun _ => ?_⟩
    apply as_part c1 na (by omega)
    apply as_em c1 _ _ (by omega) (by omega) (bl [_] (by simp))
    intro ρ2 c2
    exact k ρ2 (as_more (as_asc c2) (it_22 w rfl))
  · intro w
    exact ⟨by omega, fun _ => k ρ1 (as_more c1 (it_21 w rfl)), fun q => absurd rfl q⟩
theorem ct_emitLoad (h : as_cx σ f τ l) (hl : l.length ≤ 20) (a t : Int) (ha : iv_sc (iv_z σ f) a) (ht : 3 ≤ iv_z σ f t) (k : ∀ ρ, as_cx σ f ρ (l ++ it_load (iv_z σ f) (as_pt σ f) a t) → Q 0 ρ) : fb_V E fb_As_emitLoad 0 [.inr 3, .inl a, .inl t] [] τ Q := by
  obtain ⟨na, ra, a0, a1⟩ := as_scv h ha
  have bl : ∀ m : em_I, m.length ≤ 10 → Nat.ble ((l ++ m).length + 1) 40 = true := fun m hm => by rw [Nat.ble_eq, List.length_append]; omega
  have htr := iv_sc_in (show iv_z σ f t ≠ 0 by omega)
  have h6 := h.f6
  have hb := h.2.2.1.1.2.1 f h6.1.1 h6.1.2
  have hpt := h.2.2.1.2.2.2 f t h6.1.1 h6.2.1 htr.1 htr.2
  have ept : as_pt σ f t 0 = σ.2 (25 + f.toNat) t := by unfold as_pt; rw [if_pos (by omega), Int.add_zero]
  apply As_emitLoad_b0
  rw [h.cur, h.arr (a := 25 + f.toNat) (by omega), ← ept]
  refine ⟨by omega, by omega, ?_⟩
  apply as_em h _ _ (by omega) (by omega) (by rw [Nat.ble_eq]; omega)
  intro ρ1 c1
  apply as_part c1 na (by omega)
  apply as_em c1 _ _ (by omega) (by omega) (bl [_] (by simp))
  intro ρ2 c2
  have c2 := as_asc c2
  apply as_wide c2 ra
  · intro w
    refine ⟨by omega, fun q => by omega, fun _ => ?_⟩
    apply as_em c2 _ _ (by omega) (by omega) (bl [_, _] (by simp))
    intro ρ3 c3
    have c3 := as_asc c3
    apply as_part c3 na (by omega)
    apply as_em c3 _ _ (by omega) (by omega) (bl [_, _, _] (by simp))
    intro ρ4 c4
    exact k ρ4 (as_more (as_asc c4) (it_22 w rfl))
  · intro w
    exact ⟨by omega, fun _ => k ρ2 (as_more c2 (it_21 w rfl)), fun q => absurd rfl q⟩
theorem ct_emitStore (h : as_cx σ f τ l) (hl : l.length ≤ 20) (t c : Int) (hc : iv_sc (iv_z σ f) c) (ht : 3 ≤ iv_z σ f t) (k : ∀ ρ, as_cx σ f ρ (l ++ it_store (as_pt σ f) t c) → Q 0 ρ) : fb_V E fb_As_emitStore 0 [.inr 3, .inl t, .inl c] [] τ Q := by
  obtain ⟨na, ra, a0, a1⟩ := as_scv h hc
  have bl : ∀ m : em_I, m.length ≤ 10 → Nat.ble ((l ++ m).length + 1) 40 = true := fun m hm => by rw [Nat.ble_eq, List.length_append]; omega
  have htr := iv_sc_in (show iv_z σ f t ≠ 0 by omega)
  have h6 := h.f6
  have hb := h.2.2.1.1.2.1 f h6.1.1 h6.1.2
  have hpt := h.2.2.1.2.2.2 f t h6.1.1 h6.2.1 htr.1 htr.2
  have ept : as_pt σ f t 0 = σ.2 (25 + f.toNat) t := by unfold as_pt; rw [if_pos (by omega), Int.add_zero]
  apply As_emitStore_b0
  apply as_part h na (by omega)
  apply as_em h _ _ (by omega) (by omega) (by rw [Nat.ble_eq]; omega)
  intro ρ1 c1
  rw [c1.cur, c1.arr (a := 25 + f.toNat) (by omega), ← ept]
  refine ⟨by omega, by omega, ?_⟩
  apply as_em c1 _ _ (by omega) (by omega) (bl [_] (by simp))
  intro ρ2 c2
  exact k ρ2 (as_asc c2)
theorem ct_emitIndex (h : as_cx σ f τ l) (hl : l.length ≤ 20) (t b : Int) (hb1 : iv_z σ f b = 1) (ht : 3 ≤ iv_z σ f t) (k : ∀ ρ, as_cx σ f ρ (l ++ it_idx (iv_z σ f) (as_pt σ f) t b) → Q 0 ρ) : fb_V E fb_As_emitIndex 0 [.inr 3, .inl t, .inl b] [] τ Q := by
  obtain ⟨nb, rb, b0, b1⟩ := as_scv h (Or.inl hb1)
  have bl : ∀ m : em_I, m.length ≤ 10 → Nat.ble ((l ++ m).length + 1) 40 = true := fun m hm => by rw [Nat.ble_eq, List.length_append]; omega
  have htr := iv_sc_in (show iv_z σ f t ≠ 0 by omega)
  have h6 := h.f6
  have hb := h.2.2.1.1.2.1 f h6.1.1 h6.1.2
  have hz := iv_sz_in h.2.2.1.1 f t
  rw [iv_sz_z h6.1.1 h6.2.1] at hz
  apply As_emitIndex_b0
  apply as_part h nb (by omega)
  apply as_em h _ _ (by omega) (by omega) (by rw [Nat.ble_eq]; omega)
  intro ρ1 c1
  apply as_sz c1 (by omega)
  apply as_em c1 _ _ (by omega) (by omega) (bl [_] (by simp))
  intro ρ2 c2
  have c2 := as_asc c2
  apply as_raw c2 31 134 (by omega) (by omega) (bl [_, _] (by simp))
  intro ρ3 c3
  have c3 := as_asc c3
  apply as_raw c3 30 1 (by omega) (by omega) (bl [_, _, _] (by simp))
  intro ρ4 c4
  have c4 := as_asc c4
  apply As_emitAlone_b0
  apply as_raw c4 30 _ (by omega) (by omega) (bl [_, _, _, _] (by simp))
  intro ρ5 c5
  exact k ρ5 (as_asc c5)
theorem ct_emitZero (h : as_cx σ f τ l) (hl : l.length ≤ 20) (a : Int) (ha : iv_sc (iv_z σ f) a) (k : ∀ ρ, as_cx σ f ρ (l ++ it_zero (iv_z σ f) (as_pt σ f) a) → Q 0 ρ) : fb_V E fb_As_emitZero 0 [.inr 3, .inl a] [] τ Q := by
  obtain ⟨na, ra, a0, a1⟩ := as_scv h ha
  have bl : ∀ m : em_I, m.length ≤ 10 → Nat.ble ((l ++ m).length + 1) 40 = true := fun m hm => by rw [Nat.ble_eq, List.length_append]; omega
  apply As_emitZero_b0
  apply as_wide h ra
  · intro w
    refine ⟨by omega, fun q => by omega, fun _ => ?_⟩
    apply as_part h na (by omega)
    apply as_em h _ _ (by omega) (by omega) (by rw [Nat.ble_eq]; omega)
    intro ρ1 c1
    apply as_part c1 na (by omega)
    apply as_em c1 _ _ (by omega) (by omega) (bl [_] (by simp))
    intro ρ2 c2
    exact k ρ2 (as_more (as_asc c2) (by unfold it_zero; rw [if_pos w]; rfl))
  · intro w
    refine ⟨by omega, fun _ => ?_, fun q => absurd rfl q⟩
    have c0 := as_rst h (by omega)
    apply as_part c0 na (by omega)
    apply as_em c0 _ _ (by omega) (by omega) (bl [_] (by simp))
    intro ρ1 c1
    exact k ρ1 (as_more (as_asc c1) (by unfold it_zero; rw [if_neg w]; rfl))
theorem ct_emitBelow (h : as_cx σ f τ l) (hl : l.length ≤ 20) (a b : Int) (ha : iv_sc (iv_z σ f) a) (hb : iv_sc (iv_z σ f) b) (k : ∀ ρ, as_cx σ f ρ (l ++ it_below (iv_z σ f) (as_pt σ f) a b) → Q 0 ρ) : fb_V E fb_As_emitBelow 0 [.inr 3, .inl a, .inl b] [] τ Q := by
  obtain ⟨na, ra, a0, a1⟩ := as_scv h ha
  obtain ⟨nb, rb, b0, b1⟩ := as_scv h hb
  have bl : ∀ m : em_I, m.length ≤ 10 → Nat.ble ((l ++ m).length + 1) 40 = true := fun m hm => by rw [Nat.ble_eq, List.length_append]; omega
  apply As_emitBelow_b0
  apply as_part h na (by omega)
  apply as_em h _ _ (by omega) (by omega) (by rw [Nat.ble_eq]; omega)
  intro ρ1 c1
  apply as_part c1 nb (by omega)
  apply as_em c1 _ _ (by omega) (by omega) (bl [_] (by simp))
  intro ρ2 c2
  have c2 := as_asc c2
  have more : ∀ R : Int → fb_S → Prop, (iv_z σ f a = 2 ∨ iv_z σ f b = 2) → (∀ ρ, Q 0 ρ → R 0 ρ) → fb_V E fb_As_part 0 [.inr 3, .inl a, .inl 1] [] ρ2 (fun r12 s13 => fb_V E fb_As_emit 0 [.inr 3, .inl 0, .inl r12, .inr 999] [] s13 (fun _ s15 => fb_V E fb_As_part 0 [.inr 3, .inl b, .inl 1] [] s15 (fun r16 s17 => fb_V E fb_As_emit 0 [.inr 3, .inl 3, .inl r16, .inr 999] [] s17 (fun _ s19 => R 0 s19)))) := by
    intro R w hR
    apply as_part c2 na (by omega)
    apply as_em c2 _ _ (by omega) (by omega) (bl [_, _] (by simp))
    intro ρ3 c3
    have c3 := as_asc c3
    apply as_part c3 nb (by omega)
    apply as_em c3 _ _ (by omega) (by omega) (bl [_, _, _] (by simp))
    intro ρ4 c4
    exact hR ρ4 (k ρ4 (as_more (as_asc c4) (by unfold it_below; rw [if_pos w]; rfl)))
  apply as_wide c2 ra
  · intro w
    exact ⟨by omega, fun _ => more Q (Or.inl w) (fun _ q => q), fun q => by omega⟩
  · intro w
    refine ⟨by omega, fun q => absurd rfl q, fun _ => ?_⟩
    apply as_wide c2 rb
    · intro w2
      exact ⟨by omega, fun q => by omega, fun _ => more Q (Or.inr w2) (fun _ q => q)⟩
    · intro w2
      exact ⟨by omega, fun _ => k ρ2 (as_more c2 (by unfold it_below; rw [if_neg (fun z => z.elim w w2)]; rfl)), fun q => absurd rfl q⟩
theorem ct_emitReturn (h : as_cx σ f τ l) (hl : l.length ≤ 20) (a : Int) (ha : iv_sc (iv_z σ f) a) (k : ∀ ρ, as_cx σ f ρ (l ++ it_ret (as_pt σ f) a) → Q 0 ρ) : fb_V E fb_As_emitReturn 0 [.inr 3, .inl a, .inr 999] [] τ Q := by
  obtain ⟨na, ra, a0, a1⟩ := as_scv h ha
  have bl : ∀ m : em_I, m.length ≤ 10 → Nat.ble ((l ++ m).length + 1) 40 = true := fun m hm => by rw [Nat.ble_eq, List.length_append]; omega
  apply As_emitReturn_b0
  apply As_emitReturn_b2
  refine ⟨by omega, fun q => by omega, fun _ => ?_⟩
  apply as_part h na (by omega)
  apply as_em h _ _ (by omega) (by omega) (by rw [Nat.ble_eq]; omega)
  intro ρ1 c1
  apply as_em c1 _ _ (by omega) (by omega) (bl [_] (by simp))
  intro ρ2 c2
  have c2 := as_asc c2
  rw [show (0 : Int) + 1 = 1 from rfl]
  apply As_emitReturn_b2
  refine ⟨by omega, fun q => by omega, fun _ => ?_⟩
  apply as_part c2 na (by omega)
  apply as_em c2 _ _ (by omega) (by omega) (bl [_, _] (by simp))
  intro ρ3 c3
  have c3 := as_asc c3
  apply as_em c3 _ _ (by omega) (by omega) (bl [_, _, _] (by simp))
  intro ρ4 c4
  have c4 := as_asc c4
  rw [show (1 : Int) + 1 = 2 from rfl]
  apply As_emitReturn_b2
  refine ⟨by omega, fun _ => ?_, fun q => by omega⟩
  apply as_al c4 20 (by omega) (bl [_, _, _, _] (by simp))
  intro ρ5 c5
  exact k ρ5 (as_asc c5)
theorem ct_emitOut (h : as_cx σ f τ l) (hl : l.length ≤ 20) (a : Int) (ha : iv_sc (iv_z σ f) a) (k : ∀ ρ, as_cx σ f ρ (l ++ it_out (iv_z σ f) (as_pt σ f) a) → Q 0 ρ) : fb_V E fb_As_emitOut 0 [.inr 3, .inl a, .inr 999] [] τ Q := by
  obtain ⟨na, ra, a0, a1⟩ := as_scv h ha
  have bl : ∀ m : em_I, m.length ≤ 10 → Nat.ble ((l ++ m).length + 1) 40 = true := fun m hm => by rw [Nat.ble_eq, List.length_append]; omega
  have hz : iv_z σ f a = 1 ∨ iv_z σ f a = 2 := ha
  apply As_emitOut_b0
  apply As_emitOut_b2
  apply as_sz h ra
  refine ⟨by omega, by omega, fun q => by omega, fun _ => ?_⟩
  apply as_part h na (by omega)
  apply as_em h _ _ (by omega) (by omega) (by rw [Nat.ble_eq]; omega)
  intro ρ1 c1
  apply as_al c1 21 (by omega) (bl [_] (by simp))
  intro ρ2 c2
  have c2 := as_asc c2
  rw [show (0 : Int) + 1 = 1 from rfl]
  apply As_emitOut_b2
  apply as_sz c2 ra
  refine ⟨by omega, by omega, fun q => k ρ2 (as_more c2 (it_21 (show ¬ iv_z σ f a = 2 by omega) rfl)), fun q => ?_⟩
  apply as_part c2 na (by omega)
  apply as_em c2 _ _ (by omega) (by omega) (bl [_, _] (by simp))
  intro ρ3 c3
  have c3 := as_asc c3
  apply as_al c3 21 (by omega) (bl [_, _, _] (by simp))
  intro ρ4 c4
  have c4 := as_asc c4
  rw [show (1 : Int) + 1 = 2 from rfl]
  apply As_emitOut_b2
  apply as_sz c4 ra
  exact ⟨by omega, by omega, fun _ => k ρ4 (as_more c4 (it_22 (show iv_z σ f a = 2 by omega) rfl)), fun q => by omega⟩
end ASX
