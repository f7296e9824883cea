/-! the class's processor: one step -/
theorem fb_gg (σ : fb_S) (k : Nat) (a b : Int) : fb_sg (fb_sg σ k a) k b = fb_sg σ k b := by
  unfold fb_sg
  have : (fun j => if j = k then b else if j = k then a else σ.1 j) = (fun j => if j = k then b else σ.1 j) := by
    funext j
    by_cases h : j = k
    · rw [if_pos h, if_pos h]
    · rw [if_neg h, if_neg h, if_neg h]
  show ((fun j => if j = k then b else if j = k then a else σ.1 j), σ.2) = _
  rw [this]
theorem fb_gc (σ : fb_S) {k j : Nat} (h : k ≠ j) (a b : Int) : fb_sg (fb_sg σ k a) j b = fb_sg (fb_sg σ j b) k a := by
  unfold fb_sg
  have : (fun i => if i = j then b else if i = k then a else σ.1 i) = (fun i => if i = k then a else if i = j then b else σ.1 i) := by
    funext i
    by_cases h1 : i = j
    · rw [if_pos h1, if_neg (fun e => h (e.symm.trans h1)), if_pos h1]
    · rw [if_neg h1]
      by_cases h2 : i = k
      · rw [if_pos h2, if_pos h2]
      · rw [if_neg h2, if_neg h2, if_neg h1]
  show ((fun i => if i = j then b else if i = k then a else σ.1 i), σ.2) = ((fun i => if i = k then a else if i = j then b else σ.1 i), σ.2)
  rw [this]
section CPU
variable {E : fb_E} {σ τ : fb_S} {Q : Int → fb_S → Prop}
/-- code B stands at p -/
def cb (σ : fb_S) (p : Int) (B : List Int) : Prop := ∀ (i : Nat) (b : Int), B[i]? = some b → (0 ≤ p + i ∧ p + i < 500) ∧ σ.2 31 (p + i) = b
theorem px_fetch (p b : Int) (hp : σ.1 136 = p) (hr : 0 ≤ p ∧ p < 500) (hb : σ.2 31 p = b) (h : Q b (fb_sg σ 136 (p + 1))) : fb_V E fb_Po_fetch 0 [.inr 4, .inr 999] [] σ Q := by
  apply Po_fetch_b0
  rw [hp]
  refine ⟨by omega, fun q => by omega, fun _ => ⟨fun q => by omega, fun _ => ⟨hr, ?_⟩⟩⟩
  rw [hb]
  exact h
/-- the state behind a step's fetches: one more step, at p -/
def px_N (σ : fb_S) (p : Int) : fb_S := fb_sg (fb_sg σ 134 (σ.1 134 + 1)) 136 p
theorem px_N1 (σ : fb_S) (p : Int) : fb_sg (fb_sg σ 136 p) 134 ((fb_sg σ 136 p).1 134 + 1) = px_N σ p := fb_gc σ (by decide) _ _
theorem px_N2 (σ : fb_S) (p p' : Int) : fb_sg (px_N σ p) 136 p' = px_N σ p' := fb_gg _ _ _ _
def px_zf (m : Int) : Int := if m = 0 then 1 else 0
def px_o (x q : Int) : Int := if q < 256 then q else if q < 512 then q - 256 else q - 512 + x
def px_m (d : Int → Int) (x q : Int) : Int := if q < 256 then d q else if q < 512 then q - 256 else d (q - 512 + x)
/-- what an instruction with data does -/
def px_ef (n o m : Int) (s : fb_S) : fb_S :=
  if n = 0 then fb_sg (fb_sg s 137 m) 140 (px_zf m) else if n = 1 then fb_sm s 37 o (s.1 137)
  else if n = 2 then fb_sg (fb_sg (fb_sg s 139 ((s.1 137 + m + s.1 139) / 256)) 137 ((s.1 137 + m + s.1 139) % 256)) 140 (px_zf ((s.1 137 + m + s.1 139) % 256))
  else if n = 3 then fb_sg (fb_sg (fb_sg s 139 ((s.1 137 + (255 - m) + s.1 139) / 256)) 137 ((s.1 137 + (255 - m) + s.1 139) % 256)) 140 (px_zf ((s.1 137 + (255 - m) + s.1 139) % 256))
  else if n = 4 then fb_sg (fb_sg s 137 (((s.1 137).toNat &&& m.toNat : Nat) : Int)) 140 (px_zf (((s.1 137).toNat &&& m.toNat : Nat) : Int))
  else if n = 5 then fb_sg (fb_sg s 137 (((s.1 137).toNat ||| m.toNat : Nat) : Int)) 140 (px_zf (((s.1 137).toNat ||| m.toNat : Nat) : Int))
  else if n = 6 then fb_sg (fb_sg s 137 (((s.1 137).toNat ^^^ m.toNat : Nat) : Int)) 140 (px_zf (((s.1 137).toNat ^^^ m.toNat : Nat) : Int))
  else if n = 7 then fb_sg (fb_sm (fb_sg s 139 (2 * m / 256)) 37 o (2 * m % 256)) 140 (px_zf (2 * m % 256))
  else if n = 8 then fb_sg (fb_sm (fb_sg s 139 ((2 * m + s.1 139) / 256)) 37 o ((2 * m + s.1 139) % 256)) 140 (px_zf ((2 * m + s.1 139) % 256))
  else if n = 9 then fb_sg (fb_sg s 138 m) 140 (px_zf m)
  else if n = 10 then fb_sg (fb_sg s 139 (if s.1 137 < m then 0 else 1)) 140 (if s.1 137 = m then 1 else 0)
  else fb_sg (fb_sg s 139 (if s.1 138 < m then 0 else 1)) 140 (if s.1 138 = m then 1 else 0)
theorem px_setA (m : Int) (hm : -2147483648 ≤ m ∧ m < 2147483648) (h : Q 0 (fb_sg (fb_sg σ 137 m) 140 (px_zf m))) : fb_V E fb_Po_setA 0 [.inr 4, .inl m] [] σ Q := by
  apply Po_setA_b0
  unfold px_zf at h
  refine ⟨hm, fun q => ?_, fun q => ?_⟩
  · rw [if_neg q] at h; exact h
  · rw [if_pos q] at h; exact h
theorem px_write (o v : Int) (ho : 0 ≤ o ∧ o < 128) (h : Q 0 (fb_sm σ 37 o v)) : fb_V E fb_Po_write 0 [.inr 4, .inl o, .inl v] [] σ Q := by
  apply Po_write_b0
  exact ⟨by omega, fun q => by omega, fun _ => ⟨fun q => by omega, fun _ => ⟨ho, h⟩⟩⟩
theorem px_add (m : Int) (hm : -1000 ≤ m ∧ m < 1000) (ha : 0 ≤ σ.1 137 ∧ σ.1 137 ≤ 255) (hc : 0 ≤ σ.1 139 ∧ σ.1 139 ≤ 1) (h : Q 0 (fb_sg (fb_sg (fb_sg σ 139 ((σ.1 137 + m + σ.1 139) / 256)) 137 ((σ.1 137 + m + σ.1 139) % 256)) 140 (px_zf ((σ.1 137 + m + σ.1 139) % 256)))) : fb_V E fb_Po_add 0 [.inr 4, .inl m, .inr 999] [] σ Q := by
  apply Po_add_b0
  refine ⟨by omega, ?_⟩
  apply px_setA _ (by omega)
  exact h
theorem px_shift (o t : Int) (ho : 0 ≤ o ∧ o < 128) (ht : 0 ≤ t ∧ t < 1000) (h : Q 0 (fb_sg (fb_sm (fb_sg σ 139 (t / 256)) 37 o (t % 256)) 140 (px_zf (t % 256)))) : fb_V E fb_Po_shift 0 [.inr 4, .inl o, .inl t] [] σ Q := by
  apply Po_shift_b0
  refine ⟨by omega, ?_⟩
  apply px_write o _ ho
  unfold px_zf at h
  refine ⟨by omega, fun q => ?_, fun q => ?_⟩
  · rw [if_neg q] at h; exact h
  · rw [if_pos q] at h; exact h
theorem px_compare (l r : Int) (hl : 0 ≤ l ∧ l < 1000) (hr : 0 ≤ r ∧ r < 1000) (h : Q 0 (fb_sg (fb_sg σ 139 (if l < r then 0 else 1)) 140 (if l = r then 1 else 0))) : fb_V E fb_Po_compare 0 [.inr 4, .inl l, .inl r] [] σ Q := by
  apply Po_compare_b0
  refine ⟨by omega, by omega, fun q => ⟨fun q2 => ?_, fun q2 => by omega⟩, fun q => ⟨fun q2 => ?_, fun q2 => ?_⟩⟩
  · rw [if_pos q, if_neg q2] at h; exact h
  · rw [if_neg q, if_neg q2] at h; exact h
  · rw [if_neg q, if_pos q2] at h; exact h
/-- behind the operand -/
theorem px_do (n o m : Int) (hn : 0 ≤ n ∧ n ≤ 11) (ho : (n = 1 ∨ n = 7 ∨ n = 8) → 0 ≤ o ∧ o < 128) (hm : 0 ≤ m ∧ m ≤ 255) (ha : 0 ≤ σ.1 137 ∧ σ.1 137 ≤ 255) (hx : 0 ≤ σ.1 138 ∧ σ.1 138 ≤ 255) (hc : 0 ≤ σ.1 139 ∧ σ.1 139 ≤ 1) (h : Q 0 (px_ef n o m σ)) :
    (-2147483648 ≤ n ∧ n < 2147483648) ∧ ((n = 0 → fb_V E fb_Po_setA 0 [.inr 4, .inl m] [] σ (fun _ s8 => Q 0 s8)) ∧ (n = 1 → fb_V E fb_Po_write 0 [.inr 4, .inl o, .inl (σ.1 137)] [] σ (fun _ s10 => Q 0 s10)) ∧ (n = 2 → fb_V E fb_Po_add 0 [.inr 4, .inl m, .inr 999] [] σ (fun _ s12 => Q 0 s12)) ∧ (n = 3 → fb_V E fb_Po_add 0 [.inr 4, .inl (255 - m), .inr 999] [] σ (fun _ s14 => Q 0 s14)) ∧ (n = 4 → (0 ≤ (σ.1 137) ∧ (σ.1 137) < 2147483648) ∧ ((0 ≤ m ∧ m < 2147483648) ∧ (fb_V E fb_Po_setA 0 [.inr 4, .inl ((((σ.1 137) : Int).toNat &&& (m : Int).toNat : Nat) : Int)] [] σ (fun _ s18 => Q 0 s18)))) ∧ (n = 5 → (0 ≤ (σ.1 137) ∧ (σ.1 137) < 2147483648) ∧ ((0 ≤ m ∧ m < 2147483648) ∧ (fb_V E fb_Po_setA 0 [.inr 4, .inl ((((σ.1 137) : Int).toNat ||| (m : Int).toNat : Nat) : Int)] [] σ (fun _ s22 => Q 0 s22)))) ∧ (n = 6 → (0 ≤ (σ.1 137) ∧ (σ.1 137) < 2147483648) ∧ ((0 ≤ m ∧ m < 2147483648) ∧ (fb_V E fb_Po_setA 0 [.inr 4, .inl ((((σ.1 137) : Int).toNat ^^^ (m : Int).toNat : Nat) : Int)] [] σ (fun _ s26 => Q 0 s26)))) ∧ (n = 7 → fb_V E fb_Po_shift 0 [.inr 4, .inl o, .inl (2 * m)] [] σ (fun _ s28 => Q 0 s28)) ∧ (n = 8 → fb_V E fb_Po_shift 0 [.inr 4, .inl o, .inl ((2 * m) + (σ.1 139))] [] σ (fun _ s30 => Q 0 s30)) ∧ (n = 9 → (-2147483648 ≤ m ∧ m < 2147483648) ∧ ((¬ m = 0 → Q 0 (fb_sg (fb_sg σ 138 m) 140 0)) ∧ (m = 0 → Q 0 (fb_sg (fb_sg σ 138 m) 140 1)))) ∧ (n = 10 → fb_V E fb_Po_compare 0 [.inr 4, .inl (σ.1 137), .inl m] [] σ (fun _ s33 => Q 0 s33)) ∧ ((¬ n = 0 ∧ ¬ n = 1 ∧ ¬ n = 2 ∧ ¬ n = 3 ∧ ¬ n = 4 ∧ ¬ n = 5 ∧ ¬ n = 6 ∧ ¬ n = 7 ∧ ¬ n = 8 ∧ ¬ n = 9 ∧ ¬ n = 10) → fb_V E fb_Po_compare 0 [.inr 4, .inl (σ.1 138), .inl m] [] σ (fun _ s35 => Q 0 s35))) := by
  have h1 : (σ.1 137).toNat < 2 ^ 8 := by omega
  have h2 : m.toNat < 2 ^ 8 := by omega
  have a1 : (σ.1 137).toNat &&& m.toNat ≤ (σ.1 137).toNat := Nat.and_le_left
  have a2 := Nat.or_lt_two_pow h1 h2
  have a3 := Nat.xor_lt_two_pow h1 h2
  unfold px_ef at h
  refine ⟨by omega, fun e => ?_, fun e => ?_, fun e => ?_, fun e => ?_, fun e => ⟨by omega, by omega, ?_⟩, fun e => ⟨by omega, by omega, ?_⟩, fun e => ⟨by omega, by omega, ?_⟩, fun e => ?_, fun e => ?_, fun e => ⟨by omega, ?_⟩, fun e => ?_, fun e => ?_⟩
  · subst e; exact px_setA m (by omega) h
  · subst e; exact px_write o _ (ho (by omega)) h
  · subst e; exact px_add m (by omega) ha hc h
  · subst e; exact px_add (255 - m) (by omega) ha hc h
  · subst e; exact px_setA _ (by omega) h
  · subst e; exact px_setA _ (by omega) h
  · subst e; exact px_setA _ (by omega) h
  · subst e; exact px_shift o (2 * m) (ho (by omega)) (by omega) h
  · subst e; exact px_shift o (2 * m + σ.1 139) (ho (by omega)) (by omega) h
  · subst e
    have h : Q 0 (fb_sg (fb_sg σ 138 m) 140 (px_zf m)) := h
    unfold px_zf at h
    refine ⟨fun q => ?_, fun q => ?_⟩
    · rw [if_neg q] at h; exact h
    · rw [if_pos q] at h; exact h
  · subst e; exact px_compare _ _ (by omega) (by omega) h
  · rw [if_neg e.1, if_neg e.2.1, if_neg e.2.2.1, if_neg e.2.2.2.1, if_neg e.2.2.2.2.1, if_neg e.2.2.2.2.2.1, if_neg e.2.2.2.2.2.2.1, if_neg e.2.2.2.2.2.2.2.1, if_neg e.2.2.2.2.2.2.2.2.1, if_neg e.2.2.2.2.2.2.2.2.2.1, if_neg e.2.2.2.2.2.2.2.2.2.2] at h
    exact px_compare _ _ (by omega) (by omega) h
/-- the operand -/
theorem px_operand (p q : Int) (hp : σ.1 136 = p) (hcb : cb σ p ((q % 256) :: (if en_f q = 3 ∨ en_f q = 5 then [0] else []))) (hq : (0 ≤ q ∧ q < 128) ∨ (256 ≤ q ∧ q < 512) ∨ (512 ≤ q ∧ q < 640)) (h : Q (px_o (σ.1 138) q) (fb_sg σ 136 (p + (1 + (if en_f q = 3 ∨ en_f q = 5 then [0] else [] : List Int).length)))) : fb_V E fb_Po_fetchOperand 0 [.inr 4, .inl (en_f q), .inr 999] [] σ Q := by
  have c0 := hcb 0 (q % 256) rfl
  rw [show p + ((0 : Nat) : Int) = p by omega] at c0
  have c1 : (en_f q = 3 ∨ en_f q = 5) → (0 ≤ p + 1 ∧ p + 1 < 500) ∧ σ.2 31 (p + 1) = 0 := by
    intro e
    rw [if_pos e] at hcb
    exact hcb 1 0 rfl
  have hf : 1 ≤ en_f q ∧ en_f q ≤ 5 := by
    unfold en_f
    repeat' split
    all_goals omega
  have two : (en_f q = 3 ∨ en_f q = 5) → ∀ R : Int → fb_S → Prop, R 0 (fb_sg σ 136 (p + 2)) → fb_V E fb_Po_fetch 0 [.inr 4, .inr 999] [] (fb_sg σ 136 (p + 1)) R := by
    intro e R k
    have := c1 e
    apply px_fetch (σ := fb_sg σ 136 (p + 1)) (p + 1) 0 rfl this.1 this.2
    rw [fb_gg, show p + 1 + 1 = p + 2 by omega]
    exact k
  have l3 : (en_f q = 3 ∨ en_f q = 5) → Q (px_o (σ.1 138) q) (fb_sg σ 136 (p + 2)) := by
    intro e
    rw [if_pos e] at h
    exact h
  have l2 : ¬ (en_f q = 3 ∨ en_f q = 5) → Q (px_o (σ.1 138) q) (fb_sg σ 136 (p + 1)) := by
    intro e
    rw [if_neg e] at h
    exact h
  have x138 : ∀ y, (fb_sg σ 136 y).1 138 = σ.1 138 := fun y => rfl
  apply Po_fetchOperand_b0
  apply px_fetch p (q % 256) hp c0.1 c0.2
  refine ⟨by omega, fun e => ?_, fun e => ⟨fun e2 => ⟨fun e3 => ?_, fun e3 => ⟨fun _ => ?_, fun e4 => absurd e4 e2⟩⟩, fun e2 => ?_⟩⟩
  · apply two (Or.inl e)
    have eo : px_o (σ.1 138) q = q % 256 + 256 * 0 := by
      unfold px_o en_f at *
      split at e
      · split at e <;> omega
      · split at e
        · omega
        · rw [if_pos (by omega)]; omega
    have k := l3 (Or.inl e)
    rw [eo] at k
    exact ⟨fun e3 => by omega, fun _ => ⟨fun _ => k, fun e4 => by omega⟩⟩
  · have eo : px_o (σ.1 138) q = q % 256 + σ.1 138 := by
      unfold px_o en_f at *
      split at e3
      · rw [if_neg (by omega), if_neg (by omega)]; omega
      · split at e3
        · omega
        · split at e3 <;> omega
    have k := l2 (by omega)
    rw [eo] at k
    exact k
  · have eo : px_o (σ.1 138) q = q % 256 := by
      unfold px_o en_f at *
      split at e3
      · split at e3 <;> omega
      · split at e3
        · rw [if_neg (by omega), if_pos (by omega)]; omega
        · rw [if_pos (by omega)]; omega
    have k := l2 (by omega)
    rw [eo] at k
    exact k
  · apply two (Or.inr e2)
    have eo : px_o (σ.1 138) q = q % 256 + 256 * 0 + σ.1 138 := by
      unfold px_o en_f at *
      split at e2
      · rw [if_neg (by omega), if_neg (by omega)]; omega
      · split at e2
        · omega
        · split at e2 <;> omega
    have k := l3 (Or.inr e2)
    rw [eo] at k
    exact ⟨fun e3 => by omega, fun _ => ⟨fun e4 => absurd e2 e4, fun _ => k⟩⟩
end CPU
