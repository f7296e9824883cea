/-! emission of an instruction of function f: its places, step by step -/
/-- places and sizes of function f, as the class has them -/
def as_P (σ : fb_S) (f : Int) : Prop := iv_P σ ∧ σ.1 107 = f ∧ (0 ≤ f ∧ f < σ.1 41) ∧ ∀ g v, 0 ≤ g → g < σ.1 41 → 0 ≤ v → v < σ.2 13 g → 0 ≤ σ.2 (25 + g.toNat) v ∧ σ.2 (25 + g.toNat) v + iv_z σ g v ≤ 120
def as_pt (σ : fb_S) (f v i : Int) : Int := if i < iv_z σ f v then σ.2 (25 + f.toNat) v + i else 256
def as_cx (σ : fb_S) (f : Int) (τ : fb_S) (l : em_I) : Prop := as_E σ τ l ∧ as_S σ 800000 ∧ as_P σ f ∧ (∀ x ∈ l, 0 ≤ x.2) ∧ l.length ≤ 40
theorem as_cx_0 {σ : fb_S} {f : Int} (hS : as_S σ 800000) (hP : as_P σ f) : as_cx σ f σ [] := ⟨as_E_nil σ, hS, hP, fun x h => absurd h List.not_mem_nil, by simp⟩
theorem as_ok31 : fr_ok [31] [104, 106] := by unfold fr_ok; simp
theorem as_cx.P {σ τ : fb_S} {f : Int} {l : em_I} (h : as_cx σ f τ l) : iv_P τ := fr_P as_ok31 h.1.1 h.2.2.1.1
theorem as_cx.cur {σ τ : fb_S} {f : Int} {l : em_I} (h : as_cx σ f τ l) : τ.1 107 = f := (h.1.1.1 107 (by decide)).trans h.2.2.1.2.1
theorem as_cx.fc {σ τ : fb_S} {f : Int} {l : em_I} (h : as_cx σ f τ l) : τ.1 41 = σ.1 41 := h.1.1.1 41 (by decide)
theorem as_cx.arr {σ τ : fb_S} {f : Int} {l : em_I} (h : as_cx σ f τ l) {a : Nat} (ha : a ≠ 31) : τ.2 a = σ.2 a := h.1.1.2 a (by simpa using ha)
theorem as_cx.z {σ τ : fb_S} {f : Int} {l : em_I} (h : as_cx σ f τ l) {g : Int} (g0 : 0 ≤ g) (g6 : g < 6) : iv_z τ g = iv_z σ g := by
  funext v
  unfold iv_z
  rw [h.arr (a := 13) (by decide), h.arr (a := 7 + g.toNat) (by omega)]
theorem as_cx.f6 {σ τ : fb_S} {f : Int} {l : em_I} (h : as_cx σ f τ l) : (0 ≤ f ∧ f < 6) ∧ f < σ.1 41 ∧ σ.1 41 ≤ 6 := by
  have hA := h.2.2.1.1.1
  have := h.2.2.1.2.2.1
  unfold iv_A at hA
  omega
theorem as_cx.S {σ τ : fb_S} {f : Int} {l : em_I} (h : as_cx σ f τ l) : as_S τ 900000 := by
  have := as_S_E h.2.1 h.1 h.2.2.2.1
  have hl := h.2.2.2.2
  unfold as_S at *
  omega
theorem as_sz {E : fb_E} {σ τ : fb_S} {f : Int} {l : em_I} {Q : Int → fb_S → Prop} (h : as_cx σ f τ l) {v : Int} (hv : -2147483648 ≤ v ∧ v < 2147483648) (k : Q (iv_z σ f v) τ) : fb_V E fb_Pr_sizeOf 0 [.inr 1, .inl (τ.1 107), .inl v, .inr 999] [] τ Q := by
  have h6 := h.f6
  have hfc := h.fc
  apply ct_sizeOf _ v (by rw [h.cur]; omega) hv (by omega) (fun g g0 g6 => (h.P.2.1 g g0 g6).1)
  rw [h.cur, iv_sz_z h6.1.1 (by omega), h.z h6.1.1 h6.1.2]
  exact k
theorem iv_sc_in {σ : fb_S} {f v : Int} (h : iv_z σ f v ≠ 0) : 0 ≤ v ∧ v < σ.2 13 f := by
  unfold iv_z at h
  split at h
  · assumption
  · exact absurd rfl h
theorem as_part {E : fb_E} {σ τ : fb_S} {f : Int} {l : em_I} {Q : Int → fb_S → Prop} (h : as_cx σ f τ l) {v i : Int} (hv : iv_z σ f v ≠ 0) (hi : 0 ≤ i ∧ i ≤ 8) (k : Q (as_pt σ f v i) τ) : fb_V E fb_As_part 0 [.inr 3, .inl v, .inl i] [] τ Q := by
  have h6 := h.f6
  have hvr := iv_sc_in hv
  have hb := h.2.2.1.1.2.1 f h6.1.1 h6.1.2
  have hz := iv_sz_in h.2.2.1.1 f v
  rw [iv_sz_z h6.1.1 h6.2.1] at hz
  apply As_part_b0
  apply as_sz h (by omega)
  unfold as_pt at k
  rw [h.cur, h.arr (a := 25 + f.toNat) (by omega)]
  refine ⟨by omega, by omega, fun q => ?_, fun q => ⟨by omega, by omega, ?_⟩⟩
  · rwa [if_neg (by omega)] at k
  · rwa [if_pos (by omega)] at k
theorem as_wide {E : fb_E} {σ τ : fb_S} {f : Int} {l : em_I} {Q : Int → fb_S → Prop} (h : as_cx σ f τ l) {v : Int} (hv : -2147483648 ≤ v ∧ v < 2147483648) (k1 : iv_z σ f v = 2 → Q 1 τ) (k0 : ¬ iv_z σ f v = 2 → Q 0 τ) : fb_V E fb_As_isWide 0 [.inr 3, .inl v] [] τ Q := by
  have h6 := h.f6
  have hz := iv_sz_in h.2.2.1.1 f v
  rw [iv_sz_z h6.1.1 h6.2.1] at hz
  apply As_isWide_b0
  apply as_sz h hv
  exact ⟨by omega, fun q => k0 q, fun q => k1 q⟩
theorem as_pt_in {σ : fb_S} {f : Int} (hP : as_P σ f) {v i : Int} (hv : iv_z σ f v ≠ 0) (hi : 0 ≤ i) : 0 ≤ as_pt σ f v i ∧ as_pt σ f v i ≤ 256 := by
  have hvr := iv_sc_in hv
  have := hP.2.2.2 f v hP.2.2.1.1 hP.2.2.1.2 hvr.1 hvr.2
  unfold as_pt
  split <;> omega
theorem as_add {σ τ ρ : fb_S} {f : Int} {l m : em_I} (h : as_cx σ f τ l) (hm : ∀ x ∈ m, 0 ≤ x.2) (hl : l.length + m.length ≤ 40) (e : as_E τ ρ m) : as_cx σ f ρ (l ++ m) := by
  refine ⟨as_E_app h.2.1.1.1 h.1 e, h.2.1, h.2.2.1, fun x hx => ?_, by rw [List.length_append]; exact hl⟩
  rcases List.mem_append.mp hx with q | q
  · exact h.2.2.2.1 x q
  · exact hm x q
theorem as_em {E : fb_E} {σ τ : fb_S} {f : Int} {l : em_I} {Q : Int → fb_S → Prop} (h : as_cx σ f τ l) (n p : Int) (hn : 0 ≤ n ∧ n ≤ 11) (hp : 0 ≤ p ∧ p < 2000) (hl : Nat.ble (l.length + 1) 40 = true) (k : ∀ ρ, as_cx σ f ρ (l ++ [(n, p)]) → Q 0 ρ) : fb_V E fb_As_emit 0 [.inr 3, .inl n, .inl p, .inr 999] [] τ Q := by
  apply ct_emit n p hn hp h.S
  intro ρ e
  exact k ρ (as_add h (fun x hx => by simp at hx; rw [hx]; exact hp.1) (Nat.le_of_ble_eq_true hl) e)
theorem as_al {E : fb_E} {σ τ : fb_S} {f : Int} {l : em_I} {Q : Int → fb_S → Prop} (h : as_cx σ f τ l) (n : Int) (hn : n = 12 ∨ n = 13 ∨ n = 20 ∨ n = 21 ∨ n = 22) (hl : Nat.ble (l.length + 1) 40 = true) (k : ∀ ρ, as_cx σ f ρ (l ++ [(n, 0)]) → Q 0 ρ) : fb_V E fb_As_emitAlone 0 [.inr 3, .inl n] [] τ Q := by
  apply ct_emitAlone n hn h.S
  intro ρ e
  exact k ρ (as_add h (fun x hx => by simp at hx; rw [hx]; exact Int.le_refl 0) (Nat.le_of_ble_eq_true hl) e)
/-- a byte as it is -/
theorem as_raw {E : fb_E} {σ τ : fb_S} {f : Int} {l : em_I} {Q : Int → fb_S → Prop} (h : as_cx σ f τ l) (n b : Int) (hn : n = 30 ∨ n = 31) (hb : 0 ≤ b) (hl : Nat.ble (l.length + 1) 40 = true) (k : ∀ ρ, as_cx σ f ρ (l ++ [(n, b)]) → Q 0 ρ) : fb_V E fb_As_put 0 [.inr 3, .inl b] [] τ Q := by
  have s := h.S
  unfold as_S at s
  apply ct_put b (by omega)
  intro ρ e
  refine k ρ (as_add h (fun x hx => by simp at hx; rw [hx]; exact hb) (Nat.le_of_ble_eq_true hl) ?_)
  have e1 : em_B (τ.1 106) [(n, b)] = [b] := by
    show em_b (τ.1 106) n b ++ [] = _
    unfold em_b
    rw [if_neg (by omega), if_neg (by omega), if_neg (by omega), if_pos (by omega), List.append_nil]
  have e2 : em_H (τ.1 106) [(n, b)] = τ.1 106 := by
    show em_h (τ.1 106) n b = _
    unfold em_h
    rw [if_neg (by omega), if_neg (by omega)]
  unfold as_E
  rw [e1, e2]
  exact e
theorem as_jmp {E : fb_E} {σ τ : fb_S} {f : Int} {l : em_I} {Q : Int → fb_S → Prop} (h : as_cx σ f τ l) (n g : Int) (hn : n = 18 ∨ n = 19) (hg : 0 ≤ g ∧ g < 65536) (hl : Nat.ble (l.length + 1) 40 = true) (k : ∀ ρ, as_cx σ f ρ (l ++ [(n, g)]) → Q 0 (if n = 19 then ρ else ρ)) (k19 : n = 18) : fb_V E fb_As_emitJump 0 [.inr 3, .inl n, .inl g] [] τ Q := by
  have s := h.S
  unfold as_S at s
  apply As_emitJump_b0
  apply ct_put _ (by omega)
  intro τ1 r1
  have z1 : τ1.1 104 = τ.1 104 + 1 := r1.2.1
  apply ct_put _ (by omega)
  intro τ2 r2
  have z2 : τ2.1 104 = τ1.1 104 + 1 := r2.2.1
  refine ⟨by omega, ?_⟩
  apply ct_put _ (by omega)
  intro τ3 r3
  have g1 : τ1.1 106 = τ.1 106 := r1.2.2.1
  have g2 : τ2.1 106 = τ1.1 106 := r2.2.2.1
  have r := as_R_app s.1.1 (as_R_app s.1.1 r1 r2) r3
  rw [g2, g1] at r
  have key := k τ3 (as_add h (fun x hx => by simp at hx; rw [hx]; exact hg.1) (Nat.le_of_ble_eq_true hl) ?_)
  · split at key <;> exact key
  · have e1 : em_B (τ.1 106) [(n, g)] = [8 * n + 7] ++ [g % 256] ++ [g / 256] := by
      show em_b (τ.1 106) n g ++ [] = _
      unfold em_b
      rw [if_neg (by omega), if_pos (by omega), List.append_nil]
      rfl
    have e2 : em_H (τ.1 106) [(n, g)] = τ.1 106 := by
      show em_h (τ.1 106) n g = _
      unfold em_h
      rw [if_neg (by omega), if_neg (by omega)]
    unfold as_E
    rw [e1, e2]
    exact r
/-- JSR, and nothing is held behind it -/
theorem as_jsr {E : fb_E} {σ τ : fb_S} {f : Int} {l : em_I} {Q : Int → fb_S → Prop} (h : as_cx σ f τ l) (g : Int) (hg : 0 ≤ g ∧ g < 65536) (hl : Nat.ble (l.length + 1) 40 = true) (k : ∀ ρ, as_cx σ f (fb_sg ρ 106 (-1)) (l ++ [(19, g)]) → Q 0 ρ) : fb_V E fb_As_emitJump 0 [.inr 3, .inl 19, .inl g] [] τ Q := by
  have s := h.S
  unfold as_S at s
  apply As_emitJump_b0
  apply ct_put _ (by omega)
  intro τ1 r1
  have z1 : τ1.1 104 = τ.1 104 + 1 := r1.2.1
  apply ct_put _ (by omega)
  intro τ2 r2
  have z2 : τ2.1 104 = τ1.1 104 + 1 := r2.2.1
  refine ⟨by omega, ?_⟩
  apply ct_put _ (by omega)
  intro τ3 r3
  have r := as_R_h (as_R_app s.1.1 (as_R_app s.1.1 r1 r2) r3) (-1)
  refine k τ3 (as_add h (fun x hx => by simp at hx; rw [hx]; exact hg.1) (Nat.le_of_ble_eq_true hl) ?_)
  have e1 : em_B (τ.1 106) [(19, g)] = [8 * 19 + 7] ++ [g % 256] ++ [g / 256] := rfl
  have e2 : em_H (τ.1 106) [(19, g)] = -1 := rfl
  unfold as_E
  rw [e1, e2]
  exact r
