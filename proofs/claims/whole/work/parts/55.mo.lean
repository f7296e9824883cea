/-! the reference's code -/
/-- L was put behind what was there; h is held; w were counted -/
def mo_R (σ τ : fb_S) (L : List Int) (h w : Int) : Prop := fr_a [49] [173, 175, 181] σ τ ∧ τ.1 173 = σ.1 173 + L.length ∧ τ.1 175 = h ∧ τ.1 181 = σ.1 181 + w ∧ (∀ j, 0 ≤ j → j < σ.1 173 → τ.2 49 j = σ.2 49 j) ∧ ∀ (i : Nat) (b : Int), L[i]? = some b → τ.2 49 (σ.1 173 + i) = b
theorem mo_R_nil (σ : fb_S) : mo_R σ σ [] (σ.1 175) 0 := ⟨fr_rf _ _ _, by simp, rfl, by simp, fun _ _ _ => rfl, fun i b h => by simp at h⟩
theorem mo_R_app {σ τ ρ : fb_S} {L M : List Int} {h h' w w' : Int} (h0 : 0 ≤ σ.1 173) (a : mo_R σ τ L h w) (b : mo_R τ ρ M h' w') : mo_R σ ρ (L ++ M) h' (w + w') := by
  obtain ⟨a1, a2, a3, a6, a4, a5⟩ := a
  obtain ⟨b1, b2, b3, b6, b4, b5⟩ := b
  refine ⟨fr_tr a1 b1, by rw [b2, a2, List.length_append]; omega, b3, by omega, fun j j0 j1 => ?_, fun i x hx => ?_⟩
  · rw [b4 j j0 (by omega)]; exact a4 j j0 j1
  · by_cases hl : i < L.length
    · rw [List.getElem?_append_left hl] at hx
      rw [b4 _ (by omega) (by omega)]
      exact a5 i x hx
    · rw [List.getElem?_append_right (by omega)] at hx
      have := b5 (i - L.length) x hx
      rw [show τ.1 173 + ((i - L.length : Nat) : Int) = σ.1 173 + i by omega] at this
      exact this
theorem mo_R_h {σ τ : fb_S} {L : List Int} {h w : Int} (a : mo_R σ τ L h w) (h' : Int) : mo_R σ (fb_sg τ 175 h') L h' w := by
  obtain ⟨a1, a2, a3, a6, a4, a5⟩ := a
  exact ⟨fr_sg a1 (by decide), a2, rfl, a6, a4, a5⟩
theorem mo_R_w {σ τ : fb_S} {L : List Int} {h w : Int} (a : mo_R σ τ L h w) {x : Int} (w' : Int) (e : x = σ.1 181 + w') : mo_R σ (fb_sg τ 181 x) L h w' := by
  obtain ⟨a1, a2, a3, a6, a4, a5⟩ := a
  exact ⟨fr_sg a1 (by decide), a2, a3, e, a4, a5⟩
theorem mo_put {E : fb_E} {σ : fb_S} {Q : Int → fb_S → Prop} (b b' : Int) (hb : b % 256 = b') (hs : 0 ≤ σ.1 173 ∧ σ.1 173 < 1700) (h : ∀ τ, mo_R σ τ [b'] (σ.1 175) 0 → Q 0 τ) : fb_V E fb_Mo_put 0 [.inr 5, .inl b] [] σ Q := by
  apply Mo_put_b0
  refine ⟨hs, h _ ⟨fr_sg (fr_sm (fr_rf _ _ _) (by decide)) (by decide), rfl, rfl, (Int.add_zero _).symm, fun j j0 j1 => ?_, fun i x hx => ?_⟩⟩
  · rw [fb_sg2, fb_at, if_neg (by omega)]
  · have hi0 : i = 0 := by
      have := (List.getElem?_eq_some_iff.mp hx).1
      simp at this; exact this
    subst hi0
    simp at hx
    rw [fb_sg2, fb_at, if_pos (by simp), hb]
    exact hx
def mo_E (σ τ : fb_S) (l : em_I) : Prop := mo_R σ τ (em_B (σ.1 175) l) (em_H (σ.1 175) l) (em_W (σ.1 175) l)
theorem mo_E_nil (σ : fb_S) : mo_E σ σ [] := mo_R_nil σ
theorem mo_E_app {σ τ ρ : fb_S} {l m : em_I} (h0 : 0 ≤ σ.1 173) (a : mo_E σ τ l) (b : mo_E τ ρ m) : mo_E σ ρ (l ++ m) := by
  unfold mo_E at *
  rw [em_B_app, em_H_app, em_W_app]
  have e : τ.1 175 = em_H (σ.1 175) l := a.2.2.1
  rw [e] at b
  exact mo_R_app h0 a b
def mo_P (σ : fb_S) (f : Int) : Prop := iv_P σ ∧ (0 ≤ f ∧ f < σ.1 41) ∧ ∀ g, 0 ≤ g → g < σ.1 41 → 0 ≤ σ.2 47 g ∧ σ.2 47 g + iv_fs σ g ≤ 120
def mo_pt (σ : fb_S) (f v i : Int) : Int := if i < iv_z σ f v then σ.2 47 f + iv_ps σ f v.toNat + i else 256
def mo_S (σ : fb_S) : Prop := (0 ≤ σ.1 173 ∧ σ.1 173 ≤ 1620) ∧ (-1 ≤ σ.1 175 ∧ σ.1 175 < 512)
def mo_cx (σ : fb_S) (f : Int) (τ : fb_S) (l : em_I) : Prop := mo_E σ τ l ∧ mo_S σ ∧ mo_P σ f ∧ (∀ x ∈ l, 0 ≤ x.2) ∧ l.length ≤ 22
theorem mo_ok : fr_ok [49] [173, 175, 181] := by unfold fr_ok; simp
theorem iv_ps_mono {σ : fb_S} (hP : iv_P σ) {f : Int} (f0 : 0 ≤ f) (f6 : f < 6) {n : Nat} : ∀ m : Nat, n ≤ m → (m : Int) ≤ σ.2 13 f → iv_ps σ f n ≤ iv_ps σ f m
  | 0, h, _ => by rw [show n = 0 by omega]; exact Int.le_refl _
  | m + 1, h, hm => by
    by_cases e : n = m + 1
    · rw [e]; exact Int.le_refl _
    · have ih := iv_ps_mono hP f0 f6 (n := n) m (by omega) (by omega)
      have := hP.2.2.1 f m f0 f6 (by omega) (by omega)
      simp only [iv_ps]
      omega
theorem iv_pl_in {σ : fb_S} (hP : iv_P σ) {f v : Int} (f0 : 0 ≤ f) (f6 : f < 6) (v0 : 0 ≤ v) (v1 : v < σ.2 13 f) : 0 ≤ iv_ps σ f v.toNat ∧ iv_ps σ f v.toNat + iv_z σ f v ≤ iv_fs σ f := by
  have h1 := iv_ps_in hP f0 f6 v.toNat (by omega)
  have h2 := iv_ps_mono hP f0 f6 (n := v.toNat + 1) (σ.2 13 f).toNat (by omega) (by omega)
  have h3 : iv_z σ f v = σ.2 (7 + f.toNat) v := by unfold iv_z; rw [if_pos ⟨v0, v1⟩]
  simp only [iv_ps] at h2
  rw [show ((v.toNat : Nat) : Int) = v by omega] at h2
  rw [h3]
  unfold iv_fs
  omega
theorem fb_sgs (σ : fb_S) (k : Nat) : fb_sg σ k (σ.1 k) = σ := by
  unfold fb_sg
  have : (fun j => if j = k then σ.1 k else σ.1 j) = σ.1 := by
    funext j
    split
    · next e => rw [e]
    · rfl
  rw [this]
theorem cm_w71 {E : fb_E} {σ : fb_S} {Q : Int → fb_S → Prop} (n p : Int) (hn : 0 ≤ n ∧ n ≤ 11) (hp : 0 ≤ p ∧ p < 512) (hh : -1 ≤ σ.1 175 ∧ σ.1 175 < 512) (k : Q 0 (fb_sg σ 175 (en_h (σ.1 175) n p))) : fb_V E fb_Mo_with 71 [.inr 5, .inl n, .inl p] [] σ Q := by
  have same : en_h (σ.1 175) n p = σ.1 175 → Q 0 σ := by
    intro e
    rw [e, fb_sgs] at k
    exact k
  have put : ∀ x, en_h (σ.1 175) n p = x → Q 0 (fb_sg σ 175 x) := fun x e => by rw [e] at k; exact k
  clear k
  unfold en_h at same put
  apply Mo_with_b71
  refine ⟨by omega, fun q => put _ ?_, fun q => ⟨fun q1 => ⟨fun q2 => by omega, fun q2 => ⟨fun q3 => put _ ?_, fun q3 => ⟨fun q4 => ⟨by omega, by omega, fun q5 => same ?_, fun q5 => put _ ?_⟩, fun q4 => ⟨fun q5 => same ?_, fun q5 => ⟨by omega, by omega, fun q6 => same ?_, fun q6 => put _ ?_⟩⟩⟩⟩⟩, fun q1 => put _ ?_⟩⟩ <;> clear same put
  · rw [if_pos q, if_pos (by omega)]
  · rw [if_neg q, if_neg q1, if_pos q3]
  · rw [if_neg q, if_neg q1, if_neg q3, if_pos (by omega), if_neg (fun e => q5 e.symm)]
  · rw [if_neg q, if_neg q1, if_neg q3, if_pos (by omega), if_pos q5.symm]
  · rw [if_neg q, if_neg q1, if_neg q3, if_neg (by omega)]
  · rw [if_neg q, if_neg q1, if_neg q3, if_pos (by omega), if_neg (fun e => q6 e.symm)]
  · rw [if_neg q, if_neg q1, if_neg q3, if_pos (by omega), if_pos q6.symm]
  · rw [if_neg q, if_pos q1, if_pos (by omega)]
section MOX
variable {E : fb_E} {σ τ : fb_S} {f : Int} {l : em_I} {Q : Int → fb_S → Prop}
theorem mo_cx_0 (hS : mo_S σ) (hP : mo_P σ f) : mo_cx σ f σ [] := ⟨mo_E_nil σ, hS, hP, fun x h => absurd h List.not_mem_nil, by simp⟩
theorem mo_cx.P (h : mo_cx σ f τ l) : iv_P τ := fr_P mo_ok h.1.1 h.2.2.1.1
theorem mo_cx.arr (h : mo_cx σ f τ l) {a : Nat} (ha : a ≠ 49) : τ.2 a = σ.2 a := h.1.1.2 a (by simpa using ha)
theorem mo_cx.fc (h : mo_cx σ f τ l) : τ.1 41 = σ.1 41 := h.1.1.1 41 (by decide)
theorem mo_cx.f6 (h : mo_cx σ f τ l) : (0 ≤ f ∧ f < 6) ∧ f < σ.1 41 ∧ σ.1 41 ≤ 6 := by
  have hA := h.2.2.1.1.1
  have := h.2.2.1.2.1
  unfold iv_A at hA
  omega
theorem mo_cx.z (h : mo_cx σ f τ l) {g : Int} (g0 : 0 ≤ g) (g6 : g < 6) : iv_z τ g = iv_z σ g := by
  funext v
  unfold iv_z
  rw [h.arr (a := 13) (by decide), h.arr (a := 7 + g.toNat) (by omega)]
theorem mo_cx.ps (h : mo_cx σ f τ l) {g : Int} (g6 : g < 6) (n : Nat) : iv_ps τ g n = iv_ps σ g n := iv_ps_fr mo_ok h.1.1 g6 n
theorem mo_cx.S (h : mo_cx σ f τ l) : (0 ≤ τ.1 173 ∧ τ.1 173 ≤ 1620 + 3 * l.length) ∧ (-1 ≤ τ.1 175 ∧ τ.1 175 < 512) := by
  obtain ⟨⟨-, a2, a3, -⟩, hS, -, hl, -⟩ := h
  have h1 := em_B_len l (σ.1 175)
  unfold mo_S at hS
  rw [a2, a3]
  exact ⟨by omega, em_H_in l _ hS.2 hl⟩
/-- the size that the reference reads -/
theorem mo_cx.sz (h : mo_cx σ f τ l) {g v : Int} (g0 : 0 ≤ g) (g6 : g < 6) (hv : iv_z σ g v ≠ 0) : τ.2 42 (6 * g + v) = iv_z σ g v ∧ (0 ≤ v ∧ v < 6) ∧ (1 ≤ iv_z σ g v ∧ iv_z σ g v ≤ 8) := by
  have hr := iv_sc_in hv
  have hb := h.2.2.1.1.2.1 g g0 g6
  have hc := h.2.2.1.1.2.2.1 g v g0 g6 hr.1 hr.2
  have hz : iv_z σ g v = σ.2 (7 + g.toNat) v := by unfold iv_z; rw [if_pos hr]
  rw [h.arr (a := 42) (by decide), hc.2, hz]
  exact ⟨rfl, by omega, hc.1⟩
theorem mo_pl (h : mo_cx σ f τ l) {g v : Int} (hg : 0 ≤ g ∧ g < σ.1 41) (hv : iv_z σ g v ≠ 0) (k : Q (mo_pt σ g v 0) τ) : fb_V E fb_Mo_place 0 [.inr 5, .inl g, .inl v, .inr 999, .inr 999] [] τ Q := by
  have h6 := h.f6
  have hr := iv_sc_in hv
  have hz := h.sz hg.1 (by omega) hv
  apply cm_place h.P g v hg.1 (by omega) hr.1 (by rw [h.arr (a := 13) (by decide)]; omega)
  unfold mo_pt at k
  rw [if_pos (by omega), Int.add_zero] at k
  rw [h.arr (a := 47) (by decide), h.ps (by omega)]
  exact k
theorem mo_part (h : mo_cx σ f τ l) {g v i : Int} (hg : 0 ≤ g ∧ g < σ.1 41) (hv : iv_z σ g v = 1 ∨ iv_z σ g v = 2) (hi : i = 0 ∨ i = 1) (k : Q (mo_pt σ g v i) τ) : fb_V E fb_Mo_part 0 [.inr 5, .inl g, .inl v, .inl i] [] τ Q := by
  have h6 := h.f6
  have hne : iv_z σ g v ≠ 0 := by omega
  have hz := h.sz hg.1 (by omega) hne
  have pl : i < iv_z σ g v → fb_V E fb_Mo_place 0 [.inr 5, .inl g, .inl v, .inr 999, .inr 999] [] τ (fun r2 s3 => Q (r2 + i) s3) := by
    intro hlt
    apply mo_pl h hg hne
    unfold mo_pt at k ⊢
    rw [if_pos hlt] at k
    rw [if_pos (by omega), Int.add_zero]
    exact k
  apply Mo_part_b0
  rw [hz.1]
  refine ⟨by omega, fun q => pl (by omega), fun q => ⟨by omega, by omega, fun q2 => pl (by omega), fun q2 => ?_⟩⟩
  unfold mo_pt at k
  rwa [if_neg (by omega)] at k
theorem mo_pt_in (hP : mo_P σ f) {v i : Int} (hv : iv_z σ f v ≠ 0) (hi : 0 ≤ i) : 0 ≤ mo_pt σ f v i ∧ mo_pt σ f v i ≤ 256 := by
  have hr := iv_sc_in hv
  have hA := hP.1.1
  unfold iv_A at hA
  have h1 := iv_pl_in hP.1 hP.2.1.1 (show f < 6 by have := hP.2.1; omega) hr.1 hr.2
  have h2 := hP.2.2 f hP.2.1.1 hP.2.1.2
  unfold mo_pt
  split <;> omega
theorem mo_add {ρ : fb_S} {m : em_I} (h : mo_cx σ f τ l) (hm : ∀ x ∈ m, 0 ≤ x.2) (hl : l.length + m.length ≤ 22) (e : mo_E τ ρ m) : mo_cx σ f ρ (l ++ m) := by
  refine ⟨mo_E_app h.2.1.1.1 h.1 e, h.2.1, h.2.2.1, fun x hx => ?_, by rw [List.length_append]; exact hl⟩
  rcases List.mem_append.mp hx with q | q
  · exact h.2.2.2.1 x q
  · exact hm x q
theorem mo_asc {m n : em_I} (h : mo_cx σ f τ ((l ++ m) ++ n)) : mo_cx σ f τ (l ++ (m ++ n)) := by rw [List.append_assoc] at h; exact h
theorem mo_more {m m' : em_I} (h : mo_cx σ f τ (l ++ m)) (e : m = m') : mo_cx σ f τ (l ++ m') := e ▸ h
/-- one item, put whole -/
theorem mo_one (h : mo_cx σ f τ l) (n p : Int) (hp : 0 ≤ p) (hl : l.length + 1 ≤ 22) {ρ : fb_S} (r : mo_R τ ρ (em_b (τ.1 175) n p) (em_h (τ.1 175) n p) (em_w (τ.1 175) n p)) : mo_cx σ f ρ (l ++ [(n, p)]) := by
  refine mo_add h (fun x hx => by simp at hx; rw [hx]; exact hp) hl ?_
  have e1 : em_B (τ.1 175) [(n, p)] = em_b (τ.1 175) n p := List.append_nil _
  have e3 : em_W (τ.1 175) [(n, p)] = em_w (τ.1 175) n p := Int.add_zero _
  unfold mo_E
  rw [e1, e3]
  exact r
theorem mo_raw (h : mo_cx σ f τ l) (b b' : Int) (hb : b % 256 = b') (hl : l.length + 1 ≤ 22) (k : ∀ ρ, mo_cx σ f ρ (l ++ [(30, b')]) → Q 0 ρ) : fb_V E fb_Mo_put 0 [.inr 5, .inl b] [] τ Q := by
  have s := h.S
  apply mo_put b b' hb (by omega)
  intro ρ r
  exact k ρ (mo_one h 30 b' (by omega) hl r)
theorem mo_plain (h : mo_cx σ f τ l) (n : Int) (hn : n = 12 ∨ n = 13 ∨ n = 20 ∨ n = 21) (hl : l.length + 1 ≤ 22) (k : ∀ ρ, mo_cx σ f ρ (l ++ [(n, 0)]) → Q 0 ρ) : fb_V E fb_Mo_plain 0 [.inr 5, .inl n] [] τ Q := by
  have s := h.S
  apply Mo_plain_b0
  apply mo_put _ (8 * n) (by omega) (by omega)
  intro ρ r
  refine k _ (mo_one h n 0 (by omega) hl ?_)
  have e1 : em_b (τ.1 175) n 0 = [8 * n] := by
    unfold em_b
    rw [if_neg (by omega), if_neg (by omega), if_pos (by omega)]
  have e2 : em_h (τ.1 175) n 0 = τ.1 175 := by
    unfold em_h
    rw [if_neg (by omega), if_neg (by omega)]
  have e3 : em_w (τ.1 175) n 0 = 1 := by
    unfold em_w
    rw [if_neg (by omega), if_pos (by omega)]
  rw [e1, e2, e3]
  exact mo_R_w r 1 (by rw [r.2.2.2.1]; omega)
/-- two bytes -/
theorem mo_two (τ0 : fb_S) (z0 : mo_R τ τ0 [] (τ.1 175) 1) (n p fm : Int) (hs : 0 ≤ τ.1 173 ∧ τ.1 173 ≤ 1690) (hn : 0 ≤ 8 * n + fm ∧ 8 * n + fm < 256) (R : fb_S → Prop) (kk : ∀ ρ, ρ.1 173 = τ.1 173 + 2 → mo_R τ ρ [8 * n + fm, p % 256] (τ.1 175) 1 → R ρ) : fb_V E fb_Mo_put 0 [.inr 5, .inl ((8 * n) + fm)] [] τ0 (fun _ s3 => fb_V E fb_Mo_put 0 [.inr 5, .inl p] [] s3 (fun _ s5 => R s5)) := by
  have y0 : τ0.1 173 = τ.1 173 := by have := z0.2.1; simpa using this
  have g0 : τ0.1 175 = τ.1 175 := z0.2.2.1
  have hm : (8 * n + fm) % 256 = 8 * n + fm := by omega
  apply mo_put (8 * n + fm) (8 * n + fm) hm (by omega)
  intro ρ1 r1
  have r1' := mo_R_app hs.1 z0 r1
  have z1 : ρ1.1 173 = τ0.1 173 + 1 := r1.2.1
  have g1 : ρ1.1 175 = τ0.1 175 := r1.2.2.1
  apply mo_put p (p % 256) rfl (by omega)
  intro ρ2 r2
  have z2 : ρ2.1 173 = ρ1.1 173 + 1 := r2.2.1
  have r2' := mo_R_app hs.1 r1' r2
  rw [g1, g0] at r2'
  exact kk ρ2 (by omega) r2'
theorem mo_three (n p fm : Int) (hs : 0 ≤ τ.1 173 ∧ τ.1 173 ≤ 1690) {ρ : fb_S} (z : ρ.1 173 = τ.1 173 + 2) (r : mo_R τ ρ [8 * n + fm, p % 256] (τ.1 175) 1) (R : fb_S → Prop) (kk : ∀ ρ, ρ.1 173 = τ.1 173 + 3 → mo_R τ ρ [8 * n + fm, p % 256, 0] (τ.1 175) 1 → R ρ) : fb_V E fb_Mo_put 0 [.inr 5, .inl 0] [] ρ (fun _ s5 => R s5) := by
  apply mo_put 0 0 (by omega) (by omega)
  intro ρ3 r3
  have z3 : ρ3.1 173 = ρ.1 173 + 1 := r3.2.1
  have r3' := mo_R_app hs.1 r r3
  rw [show ρ.1 175 = τ.1 175 from r.2.2.1] at r3'
  exact kk ρ3 (by omega) r3'
/-- 'with': never left out -/
theorem mo_with (h : mo_cx σ f τ l) (n p : Int) (hn : 0 ≤ n ∧ n ≤ 11) (hp : 0 ≤ p ∧ p < 512) (hl : l.length + 2 ≤ 22) (hne : ¬ (n = 0 ∧ p = τ.1 175)) (k : ∀ ρ, mo_cx σ f ρ (l ++ [(n, p)]) → Q 0 ρ) : fb_V E fb_Mo_with 0 [.inr 5, .inl n, .inl p] [] τ Q := by
  have s := h.S
  have ew : em_w (τ.1 175) n p = 1 := by unfold em_w; rw [if_pos (by omega), if_neg hne]
  have eh : em_h (τ.1 175) n p = en_h (τ.1 175) n p := by unfold em_h; rw [if_pos (by omega), if_neg hne]
  have eb : em_b (τ.1 175) n p = (8 * n + en_f p) :: (p % 256) :: (if en_f p = 3 ∨ en_f p = 5 then [0] else []) := by unfold em_b; rw [if_pos (by omega), if_neg hne]
  have fin : ∀ ρ, mo_R τ ρ (em_b (τ.1 175) n p) (τ.1 175) 1 → fb_V E fb_Mo_with 71 [.inr 5, .inl n, .inl p] [] ρ Q := by
    intro ρ r
    have e : ρ.1 175 = τ.1 175 := r.2.2.1
    apply cm_w71 n p hn hp (by rw [e]; exact s.2)
    refine k _ (mo_one h n p hp.1 (by omega) ?_)
    rw [ew, eh, e]
    exact mo_R_h r _
  have z0 : mo_R τ (fb_sg τ 181 (τ.1 181 + 1)) [] (τ.1 175) 1 := mo_R_w (mo_R_nil τ) 1 rfl
  have hs : 0 ≤ τ.1 173 ∧ τ.1 173 ≤ 1690 := by omega
  rw [eb] at fin
  clear k h s ew eh eb hne
  unfold en_f at fin
  apply Mo_with_b0
  refine ⟨by omega, fun q => ⟨fun q2 => ?_, fun q2 => ?_⟩, fun q => ?_⟩
  · rw [if_neg (by omega), if_neg (by omega), if_neg (by omega), if_pos (by omega)] at fin
    apply mo_two _ z0 n p 3 hs (by omega)
    intro ρ z r
    refine ⟨fun q3 => by omega, fun _ => ?_⟩
    apply mo_three n p 3 hs z r
    intro ρ3 _ r3
    exact fin ρ3 r3
  · rw [if_neg (by omega), if_neg (by omega), if_pos (by omega), if_neg (by omega)] at fin
    apply mo_two _ z0 n p 2 hs (by omega)
    intro ρ z r
    refine ⟨fun _ => fin ρ r, fun q3 => by omega⟩
  · rw [if_neg (by omega), if_pos (by omega), if_neg (by omega)] at fin
    apply mo_two _ z0 n p 1 hs (by omega)
    intro ρ z r
    exact fin ρ r
end MOX
