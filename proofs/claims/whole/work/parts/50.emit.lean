/-! emission: items, their bytes, what is held behind them -/
def en_f (p : Int) : Int := if 512 ≤ p then (if p < 528 then 4 else 5) else if 256 ≤ p then 1 else if p < 16 then 2 else 3
def en_h (h n p : Int) : Int := if n = 0 then (if p < 512 then p else -1) else if n = 1 then (if p < 512 then p else h) else if n ≤ 6 then -1 else if n ≤ 8 then (if p = h then -1 else h) else h
/-- items (n, p): 0 .. 11 with a place; 18, 19 a jump; up to 22 alone; 30, 31 a byte as it is (31 counts); 32 forget what is held -/
def em_b (h n p : Int) : List Int := if n ≤ 11 then (if n = 0 ∧ p = h then [] else (8 * n + en_f p) :: (p % 256) :: (if en_f p = 3 ∨ en_f p = 5 then [0] else [])) else if n = 18 ∨ n = 19 then [8 * n + 7, p % 256, p / 256] else if n ≤ 22 then [8 * n] else if n ≤ 31 then [p] else []
def em_h (h n p : Int) : Int := if n ≤ 11 then (if n = 0 ∧ p = h then h else en_h h n p) else if n = 19 ∨ n = 32 then -1 else h
def em_w (h n p : Int) : Int := if n ≤ 11 then (if n = 0 ∧ p = h then 0 else 1) else if n ≤ 22 ∨ n = 31 then 1 else 0
abbrev em_I : Type := List (Int × Int)
def em_B : Int → em_I → List Int
  | _, [] => []
  | h, x :: l => em_b h x.1 x.2 ++ em_B (em_h h x.1 x.2) l
def em_H : Int → em_I → Int
  | h, [] => h
  | h, x :: l => em_H (em_h h x.1 x.2) l
def em_W : Int → em_I → Int
  | _, [] => 0
  | h, x :: l => em_w h x.1 x.2 + em_W (em_h h x.1 x.2) l
theorem em_B_app : ∀ (l1 l2 : em_I) (h : Int), em_B h (l1 ++ l2) = em_B h l1 ++ em_B (em_H h l1) l2
  | [], _, _ => rfl
  | x :: l, l2, h => by
    show em_b h x.1 x.2 ++ em_B (em_h h x.1 x.2) (l ++ l2) = _
    rw [em_B_app l l2]
    show _ = (em_b h x.1 x.2 ++ em_B (em_h h x.1 x.2) l) ++ _
    rw [List.append_assoc]
    rfl
theorem em_H_app : ∀ (l1 l2 : em_I) (h : Int), em_H h (l1 ++ l2) = em_H (em_H h l1) l2
  | [], _, _ => rfl
  | x :: l, l2, h => em_H_app l l2 _
theorem em_W_app : ∀ (l1 l2 : em_I) (h : Int), em_W h (l1 ++ l2) = em_W h l1 + em_W (em_H h l1) l2
  | [], l2, h => by simp [em_W, em_H]
  | x :: l, l2, h => by
    show em_w h x.1 x.2 + em_W (em_h h x.1 x.2) (l ++ l2) = (em_w h x.1 x.2 + em_W (em_h h x.1 x.2) l) + _
    rw [em_W_app l l2, Int.add_assoc]
    rfl
theorem em_b_len (h n p : Int) : (em_b h n p).length ≤ 3 := by
  unfold em_b
  repeat' split
  all_goals simp
theorem em_B_len : ∀ (l : em_I) (h : Int), (em_B h l).length ≤ 3 * l.length
  | [], _ => by simp [em_B]
  | x :: l, h => by
    have h1 := em_b_len h x.1 x.2
    have h2 := em_B_len l (em_h h x.1 x.2)
    simp only [em_B, List.length_append, List.length_cons]
    omega
/-! the class's code -/
/-- L was put behind what was there; h is held -/
def as_R (σ τ : fb_S) (L : List Int) (h : Int) : Prop := fr_a [31] [104, 106] σ τ ∧ τ.1 104 = σ.1 104 + L.length ∧ τ.1 106 = h ∧ (∀ j, 0 ≤ j → j < σ.1 104 → τ.2 31 j = σ.2 31 j) ∧ ∀ (i : Nat) (b : Int), L[i]? = some b → σ.1 104 + i < 500 → τ.2 31 (σ.1 104 + i) = b
theorem as_R_nil (σ : fb_S) : as_R σ σ [] (σ.1 106) := ⟨fr_rf _ _ _, by simp, rfl, fun _ _ _ => rfl, fun i b h => by simp at h⟩
theorem as_R_app {σ τ ρ : fb_S} {L M : List Int} {h h' : Int} (h0 : 0 ≤ σ.1 104) (a : as_R σ τ L h) (b : as_R τ ρ M h') : as_R σ ρ (L ++ M) h' := by
  obtain ⟨a1, a2, a3, a4, a5⟩ := a
  obtain ⟨b1, b2, b3, b4, b5⟩ := b
  refine ⟨fr_tr a1 b1, by rw [b2, a2, List.length_append]; omega, b3, fun j j0 j1 => ?_, fun i x hx hi => ?_⟩
  · rw [b4 j j0 (by omega)]; exact a4 j j0 j1
  · by_cases hl : i < L.length
    · rw [List.getElem?_append_left hl] at hx
      rw [b4 _ (by omega) (by omega)]
      exact a5 i x hx hi
    · rw [List.getElem?_append_right (by omega)] at hx
      have := b5 (i - L.length) x hx (by omega)
      rw [show τ.1 104 + ((i - L.length : Nat) : Int) = σ.1 104 + i by omega] at this
      exact this
theorem as_R_h {σ τ : fb_S} {L : List Int} {h : Int} (a : as_R σ τ L h) (h' : Int) : as_R σ (fb_sg τ 106 h') L h' := by
  obtain ⟨a1, a2, a3, a4, a5⟩ := a
  exact ⟨fr_sg a1 (by decide), a2, rfl, a4, a5⟩
theorem ct_put {E : fb_E} {σ : fb_S} {Q : Int → fb_S → Prop} (b : Int) (hs : 0 ≤ σ.1 104 ∧ σ.1 104 < 1000000) (h : ∀ τ, as_R σ τ [b] (σ.1 106) → Q 0 τ) : fb_V E fb_As_put 0 [.inr 3, .inl b] [] σ Q := by
  apply As_put_b0
  refine ⟨by omega, fun q => h _ ⟨fr_sg (fr_rf _ _ _) (by decide), rfl, rfl, fun _ _ _ => rfl, fun i x hx hi => ?_⟩, fun q => ⟨by omega, h _ ⟨fr_sg (fr_sm (fr_rf _ _ _) (by decide)) (by decide), rfl, rfl, fun j j0 j1 => ?_, fun i x hx hi => ?_⟩⟩⟩
  · omega
  · rw [fb_sg2, fb_at, if_neg (by omega)]
  · have hi0 : i = 0 := by
      have := (List.getElem?_eq_some_iff.mp hx).1
      simp at this; exact this
    subst hi0
    simp at hx
    rw [fb_sg2, fb_at, if_pos (by simp)]
    exact hx
theorem ct_formOf {E : fb_E} {σ : fb_S} {Q : Int → fb_S → Prop} (p : Int) (hp : 0 ≤ p ∧ p < 2000) (h : Q (en_f p) σ) : fb_V E fb_As_formOf 0 [.inl p] [] σ Q := by
  apply As_formOf_b0
  unfold en_f at h
  refine ⟨by omega, fun q => ⟨fun q2 => ⟨fun q3 => ?_, fun q3 => ?_⟩, fun q2 => ?_⟩, fun q => ⟨fun q2 => ?_, fun q2 => ?_⟩⟩
  · rwa [if_neg (by omega), if_neg (by omega), if_neg (by omega)] at h
  · rwa [if_neg (by omega), if_neg (by omega), if_pos (by omega)] at h
  · rwa [if_neg (by omega), if_pos (by omega)] at h
  · rwa [if_pos (by omega), if_neg (by omega)] at h
  · rwa [if_pos (by omega), if_pos (by omega)] at h
theorem ct_heldBehind {E : fb_E} {σ : fb_S} {Q : Int → fb_S → Prop} (n p : Int) (hn : 0 ≤ n ∧ n ≤ 11) (hp : 0 ≤ p ∧ p < 2000) (hh : -1 ≤ σ.1 106 ∧ σ.1 106 < 512) (h : Q (en_h (σ.1 106) n p) σ) : fb_V E fb_As_heldBehind 0 [.inr 3, .inl n, .inl p] [] σ Q := by
  apply As_heldBehind_b0
  unfold en_h at h
  refine ⟨by omega, fun e => ⟨by omega, fun q => ?_, fun q => ?_⟩, fun e => ⟨by omega, fun q => ?_, fun q => ?_⟩, fun e => ?_, fun e => ⟨by omega, by omega, fun q => ?_, fun q => ?_⟩, fun e => ?_⟩
  · rwa [if_pos (by omega), if_neg (by omega)] at h
  · rwa [if_pos (by omega), if_pos (by omega)] at h
  · rwa [if_neg (by omega), if_pos (by omega), if_neg (by omega)] at h
  · rwa [if_neg (by omega), if_pos (by omega), if_pos (by omega)] at h
  · rwa [if_neg (by omega), if_neg (by omega), if_pos (by omega)] at h
  · rwa [if_neg (by omega), if_neg (by omega), if_neg (by omega), if_pos (by omega), if_neg (by omega)] at h
  · rwa [if_neg (by omega), if_neg (by omega), if_neg (by omega), if_pos (by omega), if_pos (by omega)] at h
  · rwa [if_neg (by omega), if_neg (by omega), if_neg (by omega), if_neg (by omega)] at h
/-- the items l were put -/
def as_E (σ τ : fb_S) (l : em_I) : Prop := as_R σ τ (em_B (σ.1 106) l) (em_H (σ.1 106) l)
theorem as_E_nil (σ : fb_S) : as_E σ σ [] := as_R_nil σ
theorem as_E_app {σ τ ρ : fb_S} {l m : em_I} (h0 : 0 ≤ σ.1 104) (a : as_E σ τ l) (b : as_E τ ρ m) : as_E σ ρ (l ++ m) := by
  unfold as_E at *
  rw [em_B_app, em_H_app]
  have e : τ.1 106 = em_H (σ.1 106) l := a.2.2.1
  rw [e] at b
  exact as_R_app h0 a b
/-- a state in which code may be put -/
def as_S (σ : fb_S) (B : Int) : Prop := (0 ≤ σ.1 104 ∧ σ.1 104 ≤ B) ∧ (-1 ≤ σ.1 106 ∧ σ.1 106 < 512)
theorem em_h_in {h n p : Int} (hh : -1 ≤ h ∧ h < 512) (hp : 0 ≤ p) : -1 ≤ em_h h n p ∧ em_h h n p < 512 := by
  unfold em_h en_h
  repeat' split
  all_goals omega
theorem em_H_in : ∀ (l : em_I) (h : Int), (-1 ≤ h ∧ h < 512) → (∀ x ∈ l, 0 ≤ x.2) → -1 ≤ em_H h l ∧ em_H h l < 512
  | [], h, hh, _ => hh
  | x :: l, h, hh, hl => em_H_in l _ (em_h_in hh (hl x List.mem_cons_self)) (fun y hy => hl y (List.mem_cons_of_mem _ hy))
theorem as_S_E {σ τ : fb_S} {l : em_I} {B : Int} (h : as_S σ B) (a : as_E σ τ l) (hl : ∀ x ∈ l, 0 ≤ x.2) : as_S τ (B + 3 * l.length) := by
  obtain ⟨a1, a2, a3, -⟩ := a
  have h1 := em_B_len l (σ.1 106)
  unfold as_S at *
  rw [a2, a3]
  exact ⟨by omega, em_H_in l _ h.2 hl⟩
theorem ct_emit {E : fb_E} {σ : fb_S} {Q : Int → fb_S → Prop} (n p : Int) (hn : 0 ≤ n ∧ n ≤ 11) (hp : 0 ≤ p ∧ p < 2000) (hS : as_S σ 900000) (h : ∀ τ, as_E σ τ [(n, p)] → Q 0 τ) : fb_V E fb_As_emit 0 [.inr 3, .inl n, .inl p, .inr 999] [] σ Q := by
  obtain ⟨s1, s2⟩ := hS
  have key : ¬ (n = 0 ∧ p = σ.1 106) → fb_V E fb_As_formOf 0 [.inl p] [] σ (fun r2 s3 => fb_V E fb_As_put 0 [.inr 3, .inl ((8 * n) + r2)] [] s3 (fun _ s5 => fb_V E fb_As_put 0 [.inr 3, .inl (p % 256)] [] s5 (fun _ s7 => (-2147483648 ≤ r2 ∧ r2 < 2147483648) ∧ ((r2 = 3 → fb_V E fb_As_put 0 [.inr 3, .inl 0] [] s7 (fun _ s10 => fb_V E fb_As_heldBehind 0 [.inr 3, .inl n, .inl p] [] s10 (fun r11 s12 => Q 0 (fb_sg s12 106 r11)))) ∧ (¬ r2 = 3 → (¬ r2 = 5 → fb_V E fb_As_heldBehind 0 [.inr 3, .inl n, .inl p] [] s7 (fun r13 s14 => Q 0 (fb_sg s14 106 r13))) ∧ (r2 = 5 → fb_V E fb_As_put 0 [.inr 3, .inl 0] [] s7 (fun _ s16 => fb_V E fb_As_heldBehind 0 [.inr 3, .inl n, .inl p] [] s16 (fun r17 s18 => Q 0 (fb_sg s18 106 r17))))))))) := by
    intro hne
    have hf : 1 ≤ en_f p ∧ en_f p ≤ 5 := by unfold en_f; repeat' split
                                            all_goals omega
    have fin : ∀ (τ : fb_S) (L : List Int), as_R σ τ L (σ.1 106) → L = em_b (σ.1 106) n p → Q 0 (fb_sg τ 106 (en_h (σ.1 106) n p)) := by
      intro τ L hR hL
      refine h _ ?_
      have e1 : em_B (σ.1 106) [(n, p)] = L := by
        show em_b (σ.1 106) n p ++ [] = L
        rw [List.append_nil, hL]
      have e2 : em_H (σ.1 106) [(n, p)] = en_h (σ.1 106) n p := by
        show em_h (σ.1 106) n p = _
        unfold em_h
        rw [if_pos (by omega), if_neg hne]
      unfold as_E
      rw [e1, e2]
      exact as_R_h hR _
    have eb : em_b (σ.1 106) n p = (8 * n + en_f p) :: (p % 256) :: (if en_f p = 3 ∨ en_f p = 5 then [0] else []) := by
      unfold em_b
      rw [if_pos (by omega), if_neg hne]
    apply ct_formOf p hp
    apply ct_put _ (by omega)
    intro τ1 r1
    have z1 : τ1.1 104 = σ.1 104 + 1 := r1.2.1
    have g1 : τ1.1 106 = σ.1 106 := r1.2.2.1
    apply ct_put _ (by omega)
    intro τ2 r2
    have z2 : τ2.1 104 = τ1.1 104 + 1 := r2.2.1
    have r12 := as_R_app s1.1 r1 r2
    have g2 : τ2.1 106 = σ.1 106 := r2.2.2.1.trans g1
    rw [g1] at r12
    have three : en_f p = 3 ∨ en_f p = 5 → fb_V E fb_As_put 0 [.inr 3, .inl 0] [] τ2 (fun _ s10 => fb_V E fb_As_heldBehind 0 [.inr 3, .inl n, .inl p] [] s10 (fun r11 s12 => Q 0 (fb_sg s12 106 r11))) := by
      intro e
      apply ct_put _ (by omega)
      intro τ3 r3
      have r13 := as_R_app s1.1 r12 r3
      have g3 : τ3.1 106 = σ.1 106 := r3.2.2.1.trans g2
      apply ct_heldBehind n p hn hp (by rw [g3]; exact s2)
      rw [g3]
      refine fin τ3 _ (by rw [g2] at r13; exact r13) ?_
      rw [eb, if_pos e]
      rfl
    refine ⟨by omega, fun e => three (Or.inl e), fun e => ⟨fun e2 => ?_, fun e2 => three (Or.inr e2)⟩⟩
    apply ct_heldBehind n p hn hp (by rw [g2]; exact s2)
    rw [g2]
    refine fin τ2 _ r12 ?_
    rw [eb, if_neg (by omega)]
    rfl
  apply As_emit_b0
  refine ⟨by omega, fun e => key (fun z => e z.1), fun e => ⟨by omega, by omega, fun e2 => key (fun z => e2 z.2), fun e2 => h σ ?_⟩⟩
  have e1 : em_B (σ.1 106) [(n, p)] = [] := by
    show em_b (σ.1 106) n p ++ [] = []
    unfold em_b
    rw [if_pos (by omega), if_pos ⟨e, e2⟩]
    rfl
  have e2 : em_H (σ.1 106) [(n, p)] = σ.1 106 := by
    show em_h (σ.1 106) n p = _
    unfold em_h
    rw [if_pos (by omega), if_pos ⟨e, e2⟩]
  unfold as_E
  rw [e1, e2]
  exact as_R_nil σ
theorem ct_emitAlone {E : fb_E} {σ : fb_S} {Q : Int → fb_S → Prop} (n : Int) (hn : n = 12 ∨ n = 13 ∨ n = 20 ∨ n = 21 ∨ n = 22) (hS : as_S σ 900000) (h : ∀ τ, as_E σ τ [(n, 0)] → Q 0 τ) : fb_V E fb_As_emitAlone 0 [.inr 3, .inl n] [] σ Q := by
  obtain ⟨s1, s2⟩ := hS
  apply As_emitAlone_b0
  apply ct_put _ (by omega)
  intro τ r
  refine h τ ?_
  have e1 : em_B (σ.1 106) [(n, 0)] = [8 * n + 0] := by
    show em_b (σ.1 106) n 0 ++ [] = _
    unfold em_b
    rw [if_neg (by omega), if_neg (by omega), if_pos (by omega), List.append_nil, Int.add_zero]
  have e2 : em_H (σ.1 106) [(n, 0)] = σ.1 106 := by
    show em_h (σ.1 106) n 0 = _
    unfold em_h
    rw [if_neg (by omega), if_neg (by omega)]
  unfold as_E
  rw [e1, e2]
  exact r
