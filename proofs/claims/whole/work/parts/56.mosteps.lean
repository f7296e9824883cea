/-! the reference's steps -/
section MOY
variable {E : fb_E} {σ τ : fb_S} {f : Int} {l : em_I} {Q : Int → fb_S → Prop}
theorem mo_ind (h : mo_cx σ f τ l) (n p : Int) (hn : n = 0 ∨ n = 1) (hp : 0 ≤ p ∧ p < 256) (hl : l.length + 2 ≤ 22) (k : ∀ ρ, mo_cx σ f ρ (l ++ [(n, 512 + p)]) → Q 0 ρ) : fb_V E fb_Mo_indexed 0 [.inr 5, .inl n, .inl p] [] τ Q := by
  have s := h.S
  have hne : ¬ (n = 0 ∧ 512 + p = τ.1 175) := by omega
  have ew : em_w (τ.1 175) n (512 + p) = 1 := by unfold em_w; rw [if_pos (by omega), if_neg hne]
  have eh0 : n = 0 → em_h (τ.1 175) n (512 + p) = -1 := fun e => by unfold em_h en_h; rw [if_pos (by omega), if_neg hne, if_pos e, if_neg (by omega)]
  have eh1 : ¬ n = 0 → em_h (τ.1 175) n (512 + p) = τ.1 175 := fun e => by unfold em_h en_h; rw [if_pos (by omega), if_neg hne, if_neg e, if_pos (by omega), if_neg (by omega)]
  have eb : em_b (τ.1 175) n (512 + p) = (8 * n + en_f (512 + p)) :: (p % 256) :: (if en_f (512 + p) = 3 ∨ en_f (512 + p) = 5 then [0] else []) := by unfold em_b; rw [if_pos (by omega), if_neg hne, show (512 + p) % 256 = p % 256 by omega]
  have fin : ∀ ρ, mo_R τ ρ (em_b (τ.1 175) n (512 + p)) (τ.1 175) 1 → (-2147483648 ≤ n ∧ n < 2147483648) ∧ ((¬ n = 0 → Q 0 ρ) ∧ (n = 0 → Q 0 (fb_sg ρ 175 (-1)))) := by
    intro ρ r
    refine ⟨by omega, fun e => k _ (mo_one h n _ (by omega) (by omega) ?_), fun e => k _ (mo_one h n _ (by omega) (by omega) ?_)⟩
    · rw [ew, eh1 e]; exact r
    · rw [ew, eh0 e]; exact mo_R_h r _
  have z0 : mo_R τ (fb_sg τ 181 (τ.1 181 + 1)) [] (τ.1 175) 1 := mo_R_w (mo_R_nil τ) 1 rfl
  have hs : 0 ≤ τ.1 173 ∧ τ.1 173 ≤ 1690 := by omega
  rw [eb] at fin
  clear k h s ew eh0 eh1 eb hne
  unfold en_f at fin
  apply Mo_indexed_b0
  refine ⟨by omega, fun q => ?_, fun q => ?_⟩
  · rw [if_pos (by omega), if_neg (by omega), if_pos (by omega)] at fin
    apply mo_two _ z0 n p 5 hs (by omega)
    intro ρ z r
    refine ⟨fun q3 => by omega, fun _ => ?_⟩
    apply mo_three n p 5 hs z r
    intro ρ3 _ r3
    exact fin ρ3 r3
  · rw [if_pos (by omega), if_pos (by omega), if_neg (by omega)] at fin
    apply mo_two _ z0 n p 4 hs (by omega)
    intro ρ z r
    exact ⟨fun _ => fin ρ r, fun q3 => by omega⟩
theorem mo_to (h : mo_cx σ f τ l) (n p : Int) (hn : n = 18 ∨ n = 19) (hp : 0 ≤ p ∧ p < 65536) (hl : l.length + 2 ≤ 22) (k : ∀ ρ, mo_cx σ f ρ (l ++ [(n, p)]) → Q 0 ρ) : fb_V E fb_Mo_to 0 [.inr 5, .inl n, .inl p] [] τ Q := by
  have s := h.S
  have z0 : mo_R τ (fb_sg τ 181 (τ.1 181 + 1)) [] (τ.1 175) 1 := mo_R_w (mo_R_nil τ) 1 rfl
  have hs : 0 ≤ τ.1 173 ∧ τ.1 173 ≤ 1690 := by omega
  have eb : em_b (τ.1 175) n p = [8 * n + 7, p % 256, p / 256] := by unfold em_b; rw [if_neg (by omega), if_pos (by omega)]
  have ew : em_w (τ.1 175) n p = 1 := by unfold em_w; rw [if_neg (by omega), if_pos (by omega)]
  have eh0 : n = 19 → em_h (τ.1 175) n p = -1 := fun e => by unfold em_h; rw [if_neg (by omega), if_pos (by omega)]
  have eh1 : ¬ n = 19 → em_h (τ.1 175) n p = τ.1 175 := fun e => by unfold em_h; rw [if_neg (by omega), if_neg (by omega)]
  apply Mo_to_b0
  apply mo_two _ z0 n p 7 hs (by omega)
  intro ρ z r
  refine ⟨by omega, ?_⟩
  apply mo_put (p / 256) (p / 256) (by omega) (by omega)
  intro ρ3 r3
  have r3' := mo_R_app hs.1 r r3
  rw [show ρ.1 175 = τ.1 175 from r.2.2.1] at r3'
  refine ⟨by omega, fun e => k _ (mo_one h n p (by omega) (by omega) ?_), fun e => k _ (mo_one h n p (by omega) (by omega) ?_)⟩
  · rw [eb, ew, eh1 e]; exact r3'
  · rw [eb, ew, eh0 e]; exact mo_R_h r3' _
theorem mo_ld (h : mo_cx σ f τ l) (p : Int) (hp : 0 ≤ p ∧ p < 512) (hl : l.length + 2 ≤ 22) (k : ∀ ρ, mo_cx σ f ρ (l ++ [(0, p)]) → Q 0 ρ) : fb_V E fb_Mo_load 0 [.inr 5, .inl p] [] τ Q := by
  have s := h.S
  apply Mo_load_b0
  refine ⟨by omega, by omega, fun e => k τ (mo_one h 0 p hp.1 (by omega) ?_), fun e => ?_⟩
  · have eb : em_b (τ.1 175) 0 p = [] := by unfold em_b; rw [if_pos (by omega), if_pos ⟨rfl, e.symm⟩]
    have ew : em_w (τ.1 175) 0 p = 0 := by unfold em_w; rw [if_pos (by omega), if_pos ⟨rfl, e.symm⟩]
    have eh : em_h (τ.1 175) 0 p = τ.1 175 := by unfold em_h; rw [if_pos (by omega), if_pos ⟨rfl, e.symm⟩]
    rw [eb, ew, eh]
    exact mo_R_nil τ
  · exact mo_with h 0 p (by omega) hp hl (fun q => e q.2.symm) k
theorem mo_mv (h : mo_cx σ f τ l) (p q : Int) (hp : 0 ≤ p ∧ p < 512) (hq : 0 ≤ q ∧ q < 512) (hl : l.length + 3 ≤ 22) (k : ∀ ρ, mo_cx σ f ρ (l ++ [(0, p), (1, q)]) → Q 0 ρ) : fb_V E fb_Mo_move 0 [.inr 5, .inl p, .inl q] [] τ Q := by
  apply Mo_move_b0
  apply mo_ld h p hp (by omega)
  intro ρ c
  apply mo_with c 1 q (by omega) hq (by simp <;> omega) (by omega)
  intro ρ2 c2
  exact k ρ2 (mo_asc c2)
/-- the LDA that is always there -/
theorem mo_w0 (h : mo_cx σ f τ l) (p : Int) (hp : 0 ≤ p ∧ p < 512) (hl : l.length + 2 ≤ 22) (k : ∀ ρ, mo_cx σ f ρ (l ++ [(32, 0), (0, p)]) → Q 0 ρ) : fb_V E fb_Mo_with 0 [.inr 5, .inl 0, .inl p] [] τ Q := by
  have s := h.S
  have fin : ∀ ρ, mo_R τ ρ ((8 * 0 + en_f p) :: (p % 256) :: (if en_f p = 3 ∨ en_f p = 5 then [0] else [])) (τ.1 175) 1 → fb_V E fb_Mo_with 71 [.inr 5, .inl 0, .inl p] [] ρ Q := by
    intro ρ r
    have e : ρ.1 175 = τ.1 175 := r.2.2.1
    apply cm_w71 0 p (by omega) hp (by rw [e]; exact s.2)
    refine k _ (mo_add h (fun x hx => by simp at hx; rcases hx with hx | hx <;> rw [hx] <;> simp <;> exact hp.1) (by simp <;> omega) ?_)
    have e1 : em_B (τ.1 175) [(32, 0), (0, p)] = (8 * 0 + en_f p) :: (p % 256) :: (if en_f p = 3 ∨ en_f p = 5 then [0] else []) := by
      show [] ++ (em_b (-1) 0 p ++ []) = _
      rw [List.nil_append, List.append_nil]
      unfold em_b
      rw [if_pos (by omega), if_neg (by omega)]
    have e2 : em_H (τ.1 175) [(32, 0), (0, p)] = p := by
      show em_h (-1) 0 p = p
      unfold em_h en_h
      rw [if_pos (by omega), if_neg (by omega), if_pos rfl, if_pos (by omega)]
    have e3 : em_W (τ.1 175) [(32, 0), (0, p)] = 1 := by
      show 0 + (em_w (-1) 0 p + 0) = 1
      unfold em_w
      rw [if_pos (by omega), if_neg (by omega)]
      rfl
    have e4 : en_h (ρ.1 175) 0 p = p := by unfold en_h; rw [if_pos rfl, if_pos (by omega)]
    unfold mo_E
    rw [e1, e2, e3, e4]
    exact mo_R_h r _
  have z0 : mo_R τ (fb_sg τ 181 (τ.1 181 + 1)) [] (τ.1 175) 1 := mo_R_w (mo_R_nil τ) 1 rfl
  have hs : 0 ≤ τ.1 173 ∧ τ.1 173 ≤ 1690 := by omega
  clear k h s
  unfold en_f at fin
  apply Mo_with_b0
  refine ⟨by omega, fun q => ⟨fun q2 => ?_, fun q2 => ?_⟩, fun q => ?_⟩
  · rw [if_neg (by omega), if_neg (by omega), if_neg (by omega), if_pos (by omega)] at fin
    apply mo_two _ z0 0 p 3 hs (by omega)
    intro ρ z r
    refine ⟨fun q3 => by omega, fun _ => ?_⟩
    apply mo_three 0 p 3 hs z r
    intro ρ3 _ r3
    exact fin ρ3 r3
  · rw [if_neg (by omega), if_neg (by omega), if_pos (by omega), if_neg (by omega)] at fin
    apply mo_two _ z0 0 p 2 hs (by omega)
    intro ρ z r
    refine ⟨fun _ => fin ρ r, fun q3 => by omega⟩
  · rw [if_neg (by omega), if_pos (by omega), if_neg (by omega)] at fin
    apply mo_two _ z0 0 p 1 hs (by omega)
    intro ρ z r
    exact fin ρ r
theorem mo_guard (h : mo_cx σ f τ l) (p v : Int) (hp : 0 ≤ p ∧ p < 512) (hv : 0 ≤ v ∧ v < 256) (hl : l.length + 7 ≤ 22) (k : ∀ ρ, mo_cx σ f ρ (l ++ [(9, p), (11, 256 + v), (31, 134), (30, 1), (30, 176)]) → Q 0 ρ) : fb_V E fb_Mo_guard 0 [.inr 5, .inl p, .inl v] [] τ Q := by
  apply Mo_guard_b0
  apply mo_with h 9 p (by omega) hp (by omega) (by omega)
  intro ρ1 c1
  apply mo_with c1 11 (256 + v) (by omega) (by omega) (by simp <;> omega) (by omega)
  intro ρ2 c2
  have c2 := mo_asc c2
  have s := c2.S
  have hll : (l ++ ([(9, p)] ++ [(11, 256 + v)])).length = l.length + 2 := by simp
  apply mo_put 134 134 (by omega) (by omega)
  intro ρ3 r3
  have y3 : ρ3.1 173 = ρ2.1 173 + 1 := r3.2.1
  have g3 : ρ3.1 175 = ρ2.1 175 := r3.2.2.1
  apply mo_put 1 1 (by omega) (by omega)
  intro ρ4 r4
  have y4 : ρ4.1 173 = ρ3.1 173 + 1 := r4.2.1
  have g4 : ρ4.1 175 = ρ3.1 175 := r4.2.2.1
  have r24 := mo_R_app s.1.1 r3 r4
  have r24' := mo_R_w r24 1 (show ρ4.1 181 + 1 = ρ2.1 181 + 1 by rw [r24.2.2.2.1]; omega)
  obtain ⟨ρ', hρ', y', g'⟩ : ∃ ρ', ρ' = fb_sg ρ4 181 (ρ4.1 181 + 1) ∧ ρ'.1 173 = ρ4.1 173 ∧ ρ'.1 175 = ρ4.1 175 := ⟨_, rfl, rfl, rfl⟩
  rw [← hρ'] at r24' ⊢
  clear hρ'
  apply mo_put 176 176 (by omega) (by omega)
  intro ρ5 r5
  have r25 := mo_R_app s.1.1 r24' r5
  rw [g', g4, g3] at r25
  refine k ρ5 (mo_more (mo_asc (mo_add c2 (m := [(31, 134), (30, 1), (30, 176)]) (fun x hx => by simp at hx; rcases hx with hx | hx | hx <;> rw [hx] <;> decide) (by simp <;> omega) ?_)) rfl)
  exact r25
theorem mo_br (h : mo_cx σ f τ l) (hl : l.length ≤ 10) (n i : Int) (hn : n = 14 ∨ n = 16) (hi : 0 ≤ i ∧ i < σ.2 15 f) (htg : 0 ≤ iv_tg σ (σ.2 14 f + i) ∧ iv_tg σ (σ.2 14 f + i) < σ.2 15 f) (hst : ∀ j, 0 ≤ j → j < 144 → 0 ≤ σ.2 50 j ∧ σ.2 50 j < 65536) (hlg : σ.2 52 (24 * f + i) = 0 ∨ σ.2 52 (24 * f + i) = 1)
    (k : ∀ ρ, mo_cx σ f ρ (l ++ it_br n (τ.1 173) (σ.2 50 (24 * f + iv_tg σ (σ.2 14 f + i))) (σ.2 52 (24 * f + i))) → Q 0 ρ) : fb_V E fb_Mo_branch 0 [.inr 5, .inl (24 * f + i), .inl n, .inr 999, .inr 999] [] τ Q := by
  have h6 := h.f6
  have hb := h.2.2.1.1.2.1 f h6.1.1 h6.1.2
  have s := h.S
  have hs : 0 ≤ τ.1 173 := s.1.1
  have e15 := h.arr (a := 15) (by decide)
  have e14 := h.arr (a := 14) (by decide)
  have e50 := h.arr (a := 50) (by decide)
  have e52 := h.arr (a := 52) (by decide)
  have hst2 := hst (24 * f + iv_tg σ (σ.2 14 f + i)) (by omega) (by omega)
  apply Mo_branch_b0
  refine ⟨by omega, ?_⟩
  apply cm_goal h.P h6.1.1 (by rw [h.fc]; omega) hi.1 (by rw [e15]; exact hi.2)
  rw [e14, fr_tg mo_ok h.1.1, e50, e52, show 24 * ((24 * f + i) / 24) = 24 * f by omega]
  generalize hg : σ.2 50 (24 * f + iv_tg σ (σ.2 14 f + i)) = ga at *
  refine ⟨by omega, by omega, by omega, fun q => ?_, fun q => ?_⟩
  · rw [it_br, if_pos q] at k
    apply mo_put _ (8 * n + 6) (by omega) (by omega)
    intro ρ1 r1
    have y1 : ρ1.1 173 = τ.1 173 + 1 := r1.2.1
    apply mo_put _ ((ga - (τ.1 173 + 2)) % 256) (by rw [y1]; omega) (by omega)
    intro ρ2 r2
    have r := mo_R_app hs r1 r2
    rw [show ρ1.1 175 = τ.1 175 from r1.2.2.1] at r
    refine k ρ2 (mo_add h (fun x hx => by simp at hx; rcases hx with hx | hx <;> rw [hx] <;> simp <;> omega) (by simp <;> omega) ?_)
    exact r
  · rw [it_br, if_neg q] at k
    apply mo_put _ (8 * (n + 1) + 6) (by omega) (by omega)
    intro ρ1 r1
    have y1 : ρ1.1 173 = τ.1 173 + 1 := r1.2.1
    apply mo_put 3 3 (by omega) (by omega)
    intro ρ2 r2
    have y2 : ρ2.1 173 = ρ1.1 173 + 1 := r2.2.1
    have r := mo_R_app hs r1 r2
    have g1 : ρ1.1 175 = τ.1 175 := r1.2.2.1
    have g2 : ρ2.1 175 = ρ1.1 175 := r2.2.2.1
    have z0 : mo_R ρ2 (fb_sg ρ2 181 (ρ2.1 181 + 1)) [] (ρ2.1 175) 1 := mo_R_w (mo_R_nil ρ2) 1 rfl
    apply Mo_to_b0
    apply mo_two _ z0 18 ga 7 (by omega) (by omega)
    intro ρ3 y3 r3
    refine ⟨by omega, ?_⟩
    apply mo_put (ga / 256) (ga / 256) (by omega) (by omega)
    intro ρ4 r4
    have g3 : ρ3.1 175 = ρ2.1 175 := r3.2.2.1
    have r5 := mo_R_app hs (mo_R_app hs r r3) r4
    rw [g3, g2, g1] at r5
    have r6 := mo_R_w r5 0 (show ρ4.1 181 - 1 = τ.1 181 + 0 by rw [r5.2.2.2.1]; omega)
    refine ⟨by omega, fun _ => ?_, fun q => absurd q (by decide)⟩
    refine k _ (mo_add h (fun x hx => by simp at hx; rcases hx with hx | hx | hx | hx | hx <;> rw [hx] <;> simp <;> omega) (by simp <;> omega) ?_)
    exact r6
end MOY
