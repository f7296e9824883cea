/-! the class's processor: steps, and instructions of them -/
section CP2
variable {E : fb_E} {σ τ : fb_S} {Q : Int → fb_S → Prop}
theorem cb_tl {p b : Int} {B : List Int} (h : cb σ p (b :: B)) {τ : fb_S} (e : τ.2 31 = σ.2 31) : cb τ (p + 1) B := by
  intro i x hx
  have := h (i + 1) x hx
  rw [show p + ((i + 1 : Nat) : Int) = p + 1 + i by omega] at this
  rw [e]
  exact this
theorem cb_hd {p b : Int} {B : List Int} (h : cb σ p (b :: B)) : (0 ≤ p ∧ p < 500) ∧ σ.2 31 p = b := by
  have := h 0 b rfl
  rw [show p + ((0 : Nat) : Int) = p by omega] at this
  exact this
theorem en_f_in (q : Int) : 1 ≤ en_f q ∧ en_f q ≤ 5 := by
  unfold en_f
  repeat' split
  all_goals omega
theorem en_f_n1 {q : Int} (e : ¬ en_f q = 1) : q < 256 ∨ 512 ≤ q := by
  unfold en_f at e
  by_cases g : 512 ≤ q
  · exact Or.inr g
  · rw [if_neg g] at e
    by_cases g2 : 256 ≤ q
    · rw [if_pos g2] at e; exact absurd rfl e
    · exact Or.inl (by omega)
theorem en_f_y1 {q : Int} (e : en_f q = 1) : 256 ≤ q ∧ q < 512 := by
  unfold en_f at e
  by_cases g : 512 ≤ q
  · rw [if_pos g] at e
    split at e <;> omega
  · rw [if_neg g] at e
    by_cases g2 : 256 ≤ q
    · omega
    · rw [if_neg g2] at e
      split at e <;> omega
theorem px_om {d : Int → Int} {x q : Int} (hr : q < 256 ∨ 512 ≤ q) : d (px_o x q) = px_m d x q := by
  unfold px_o px_m
  by_cases g : q < 256
  · rw [if_pos g, if_pos g]
  · rw [if_neg g, if_neg (show ¬ q < 512 by omega), if_neg g, if_neg (show ¬ q < 512 by omega)]
theorem px_o1 {d : Int → Int} {x q : Int} (hr : 256 ≤ q ∧ q < 512) : px_o x q = px_m d x q := by
  unfold px_o px_m
  rw [if_neg (show ¬ q < 256 by omega), if_pos hr.2, if_neg (show ¬ q < 256 by omega), if_pos hr.2]
theorem px_o_in {x q : Int} (hx : 0 ≤ x) (hq : (0 ≤ q ∧ q < 128) ∨ (256 ≤ q ∧ q < 512) ∨ (512 ≤ q ∧ q < 640 ∧ q - 512 + x < 128)) (hr : q < 256 ∨ 512 ≤ q) : 0 ≤ px_o x q ∧ px_o x q < 128 := by
  unfold px_o
  by_cases g : q < 256
  · rw [if_pos g]; omega
  · rw [if_neg g, if_neg (show ¬ q < 512 by omega)]; omega
theorem px_m_in {d : Int → Int} {x q : Int} (hx : 0 ≤ x) (hd : ∀ j, 0 ≤ j → j < 128 → 0 ≤ d j ∧ d j ≤ 255) (hq : (0 ≤ q ∧ q < 128) ∨ (256 ≤ q ∧ q < 512) ∨ (512 ≤ q ∧ q < 640 ∧ q - 512 + x < 128)) : 0 ≤ px_m d x q ∧ px_m d x q ≤ 255 := by
  by_cases g : q < 256 ∨ 512 ≤ q
  · rw [← px_om g]
    have := px_o_in hx hq g
    exact hd _ this.1 this.2
  · unfold px_m
    rw [if_neg (show ¬ q < 256 by omega), if_pos (show q < 512 by omega)]
    omega
theorem px_dat (p n q : Int) (hp : σ.1 136 = p) (hcb : cb σ p ((8 * n + en_f q) :: (q % 256) :: (if en_f q = 3 ∨ en_f q = 5 then [0] else []))) (hn : 0 ≤ n ∧ n ≤ 11) (hq : (0 ≤ q ∧ q < 128) ∨ (256 ≤ q ∧ q < 512) ∨ (512 ≤ q ∧ q < 640 ∧ q - 512 + σ.1 138 < 128)) (hw : (n = 1 ∨ n = 7 ∨ n = 8) → q < 256 ∨ 512 ≤ q) (hd : ∀ j, 0 ≤ j → j < 128 → 0 ≤ σ.2 37 j ∧ σ.2 37 j ≤ 255) (ha : 0 ≤ σ.1 137 ∧ σ.1 137 ≤ 255) (hx : 0 ≤ σ.1 138 ∧ σ.1 138 ≤ 255) (hc : 0 ≤ σ.1 139 ∧ σ.1 139 ≤ 1) (p' : Int) (hp' : p' = p + (2 + (if en_f q = 3 ∨ en_f q = 5 then [0] else [] : List Int).length))
    (h : Q 0 (px_ef n (px_o (σ.1 138) q) (px_m (σ.2 37) (σ.1 138) q) (px_N σ p'))) : fb_V E fb_Po_step 0 [.inr 4, .inr 999, .inr 999, .inr 999] [] σ Q := by
  have hf := en_f_in q
  have c0 := cb_hd hcb
  have hdo := px_m_in hx.1 hd hq
  have hoo := px_o_in hx.1 hq
  have c1 := cb_tl (τ := px_N σ (p + 1)) hcb rfl
  have e1 : (8 * n + en_f q) / 8 = n := by omega
  have e2 : (8 * n + en_f q) % 8 = en_f q := by omega
  have e3 : p + 1 + (1 + (((if en_f q = 3 ∨ en_f q = 5 then [0] else [] : List Int).length : Nat) : Int)) = p' := by omega
  apply Po_step_b0
  apply px_fetch p (8 * n + en_f q) hp c0.1 c0.2
  rw [px_N1, e1, e2]
  obtain ⟨ρ, hρ⟩ : ∃ ρ, ρ = px_N σ (p + 1) := ⟨_, rfl⟩
  rw [← hρ] at c1 ⊢
  have g1 : ρ.1 136 = p + 1 := by rw [hρ]; rfl
  have g2 : fb_sg ρ 136 p' = px_N σ p' := by rw [hρ, px_N2]
  have g3 : ρ.1 138 = σ.1 138 := by rw [hρ]; rfl
  refine ⟨by omega, by omega, fun g => by omega, fun _ => ?_⟩
  apply Po_doWithData_b0
  apply px_operand (p + 1) q g1 c1 (by omega)
  rw [e3, g2, g3]
  refine ⟨by omega, fun e => ?_, fun e => ?_⟩
  · have hr := en_f_n1 e
    have ho := hoo hr
    apply Po_read_b0
    refine ⟨by omega, fun g => by omega, fun _ => ⟨fun g => by omega, fun _ => ⟨ho, ?_⟩⟩⟩
    have fin := px_do (E := E) (Q := Q) (σ := px_N σ p') n (px_o (σ.1 138) q) (px_m (σ.2 37) (σ.1 138) q) hn (fun z => hoo (hw z)) hdo ha hx hc h
    rw [show (px_N σ p').2 37 (px_o (σ.1 138) q) = px_m (σ.2 37) (σ.1 138) q from px_om hr]
    exact fin
  · have e4 := px_o1 (d := σ.2 37) (x := σ.1 138) (en_f_y1 e)
    have fin := px_do (E := E) (Q := Q) (σ := px_N σ p') n (px_o (σ.1 138) q) (px_m (σ.2 37) (σ.1 138) q) hn (fun z => hoo (hw z)) hdo ha hx hc h
    rw [e4]
    rw [e4] at fin
    exact fin
theorem px_alone (p n : Int) (hp : σ.1 136 = p) (hcb : cb σ p [8 * n]) (hn : n = 12 ∨ n = 13 ∨ n = 20 ∨ n = 21 ∨ n = 22) (h : fb_V E fb_Po_doAlone 0 [.inr 4, .inl n] [] (px_N σ (p + 1)) (fun _ s => Q 0 s)) : fb_V E fb_Po_step 0 [.inr 4, .inr 999, .inr 999, .inr 999] [] σ Q := by
  have c0 := cb_hd hcb
  apply Po_step_b0
  apply px_fetch p (8 * n) hp c0.1 c0.2
  rw [px_N1, show 8 * n / 8 = n by omega, show 8 * n % 8 = 0 by omega]
  exact ⟨by omega, by omega, fun _ => ⟨by omega, fun _ => ⟨fun _ => h, fun e => absurd e (by decide)⟩, fun e => absurd e (by decide)⟩, fun g => by omega⟩
/-- a branch: c says whether it is taken -/
theorem px_branch (p n t : Int) (c : Prop) (hp : σ.1 136 = p) (hcb : cb σ p [8 * n + 6, t]) (hn : 14 ≤ n ∧ n ≤ 17) (ht : 0 ≤ t ∧ t ≤ 255) (hz : 0 ≤ σ.1 140 ∧ σ.1 140 ≤ 1) (hc : 0 ≤ σ.1 139 ∧ σ.1 139 ≤ 1) (hcc : c ↔ (n = 14 ∧ σ.1 140 = 1) ∨ (n = 15 ∧ σ.1 140 = 0) ∨ (n = 16 ∧ σ.1 139 = 0) ∨ (n = 17 ∧ σ.1 139 = 1)) (h0 : ¬ c → Q 0 (px_N σ (p + 2))) (h1 : c → Q 0 (px_N σ (p + 2 + (if t < 128 then t else t - 256)))) : fb_V E fb_Po_step 0 [.inr 4, .inr 999, .inr 999, .inr 999] [] σ Q := by
  have c0 := cb_hd hcb
  have c1 := cb_hd (cb_tl (τ := px_N σ (p + 1)) hcb rfl)
  apply Po_step_b0
  apply px_fetch p (8 * n + 6) hp c0.1 c0.2
  rw [px_N1, show (8 * n + 6) / 8 = n by omega, show (8 * n + 6) % 8 = 6 by omega]
  refine ⟨by omega, by omega, fun _ => ⟨by omega, fun e => absurd rfl e, fun _ => ?_⟩, fun g => by omega⟩
  apply Po_doBranch_b0
  apply px_fetch (σ := px_N σ (p + 1)) (p + 1) t rfl c1.1 c1.2
  rw [px_N2, show p + 1 + 1 = p + 2 by omega]
  have no : ¬ c → (-2147483648 ≤ (0 : Int) ∧ (0 : Int) < 2147483648) ∧ (((0 : Int) = 0 → Q 0 (px_N σ (p + 2))) ∧ (¬ (0 : Int) = 0 → (-2147483648 ≤ t ∧ t < 2147483648) ∧ ((128 ≤ t → Q 0 (fb_sg (px_N σ (p + 2)) 136 (((px_N σ (p + 2)).1 136) + (t - 256)))) ∧ (¬ 128 ≤ t → Q 0 (fb_sg (px_N σ (p + 2)) 136 (((px_N σ (p + 2)).1 136) + t)))))) := fun n => ⟨by omega, fun _ => h0 n, fun e => absurd rfl e⟩
  have yes : c → (-2147483648 ≤ (1 : Int) ∧ (1 : Int) < 2147483648) ∧ (((1 : Int) = 0 → Q 0 (px_N σ (p + 2))) ∧ (¬ (1 : Int) = 0 → (-2147483648 ≤ t ∧ t < 2147483648) ∧ ((128 ≤ t → Q 0 (fb_sg (px_N σ (p + 2)) 136 (((px_N σ (p + 2)).1 136) + (t - 256)))) ∧ (¬ 128 ≤ t → Q 0 (fb_sg (px_N σ (p + 2)) 136 (((px_N σ (p + 2)).1 136) + t)))))) := by
    intro y
    have := h1 y
    refine ⟨by omega, fun e => absurd e (by decide), fun _ => ⟨by omega, fun g => ?_, fun g => ?_⟩⟩
    · rw [if_neg (by omega)] at this
      rw [px_N2]
      exact this
    · rw [if_pos (by omega)] at this
      rw [px_N2]
      exact this
  have z140 : (px_N σ (p + 2)).1 140 = σ.1 140 := rfl
  have z139 : (px_N σ (p + 2)).1 139 = σ.1 139 := rfl
  apply Po_branches_b0
  rw [z140, z139]
  refine ⟨by omega, fun e => ⟨by omega, ?_⟩, fun e => ⟨by omega, fun g => no (fun y => by have := hcc.mp y; omega), fun g => yes (hcc.mpr (by omega))⟩, fun e => ⟨by omega, fun g => no (fun y => by have := hcc.mp y; omega), fun g => yes (hcc.mpr (by omega))⟩, fun e => ⟨by omega, fun g => no (fun y => by have := hcc.mp y; omega), fun g => yes (hcc.mpr (by omega))⟩⟩
  by_cases g : σ.1 140 = 0
  · rw [g]; exact no (fun y => by have := hcc.mp y; omega)
  · rw [show σ.1 140 = 1 by omega]; exact yes (hcc.mpr (by omega))
theorem px_jump (p n ga : Int) (hp : σ.1 136 = p) (hcb : cb σ p [8 * n + 7, ga % 256, ga / 256]) (hn : n = 18 ∨ n = 19) (hr : n = 19 → 0 ≤ σ.1 132 ∧ σ.1 132 < 6) (h18 : n = 18 → Q 0 (px_N σ ga)) (h19 : n = 19 → Q 0 (fb_sg (fb_sg (fb_sm (px_N σ (p + 3)) 39 (σ.1 132) (p + 3)) 132 (σ.1 132 + 1)) 136 ga)) : fb_V E fb_Po_step 0 [.inr 4, .inr 999, .inr 999, .inr 999] [] σ Q := by
  have c0 := cb_hd hcb
  have c1 := cb_hd (cb_tl (τ := px_N σ (p + 1)) hcb rfl)
  have c2 := cb_hd (cb_tl (τ := px_N σ (p + 2)) (cb_tl (τ := px_N σ (p + 1)) hcb rfl) rfl)
  apply Po_step_b0
  apply px_fetch p (8 * n + 7) hp c0.1 c0.2
  rw [px_N1, show (8 * n + 7) / 8 = n by omega, show (8 * n + 7) % 8 = 7 by omega]
  refine ⟨by omega, by omega, fun _ => ⟨by omega, fun _ => ⟨fun e => absurd rfl e, fun _ => ?_⟩, fun e => absurd e (by decide)⟩, fun g => by omega⟩
  apply Po_doJump_b0
  apply px_fetch (σ := px_N σ (p + 1)) (p + 1) (ga % 256) rfl c1.1 c1.2
  rw [px_N2, show p + 1 + 1 = p + 2 by omega]
  apply px_fetch (σ := px_N σ (p + 2)) (p + 2) (ga / 256) rfl (by rw [show p + 1 + 1 = p + 2 by omega] at c2; exact c2.1) (by rw [show p + 1 + 1 = p + 2 by omega] at c2; exact c2.2)
  rw [px_N2, show p + 2 + 1 = p + 3 by omega, show ga % 256 + 256 * (ga / 256) = ga by omega]
  refine ⟨by omega, fun e => ?_, fun e => ?_⟩
  · rw [px_N2]; exact h18 (by omega)
  · have r := hr e
    have z132 : (px_N σ (p + 3)).1 132 = σ.1 132 := rfl
    have z136 : (px_N σ (p + 3)).1 136 = p + 3 := rfl
    rw [z132, z136]
    exact ⟨by omega, fun g => by omega, fun _ => ⟨r, h19 e⟩⟩
/-- from here the instruction goes on: s steps are done -/
abbrev Pf (E : fb_E) (s : Int) (σ : fb_S) (Q : Int → fb_S → Prop) : Prop := fb_V E fb_Po_performOne 4 [.inr 4, .inl 1, .inl s] [] σ Q
theorem pf_end (s : Int) (hs : 0 ≤ s ∧ s ≤ 64) (h : Q 0 σ) : fb_V E fb_Po_performOne 4 [.inr 4, .inl 0, .inl s] [] σ Q := by
  apply Po_performOne_b4
  exact ⟨by omega, fun _ => h, fun _ => ⟨by omega, fun _ => h, fun e => absurd rfl e⟩⟩
theorem pf_step (s : Int) (hs : 0 ≤ s ∧ s < 64) (h : fb_V E fb_Po_step 0 [.inr 4, .inr 999, .inr 999, .inr 999] [] σ (fun _ τ => (-2147483648 ≤ τ.1 133 ∧ τ.1 133 < 2147483648) ∧ (¬ τ.1 133 = 0 → Q 0 τ) ∧ (τ.1 133 = 0 → (0 ≤ τ.1 136 ∧ τ.1 136 < 500) ∧ (-2147483648 ≤ τ.2 32 (τ.1 136) ∧ τ.2 32 (τ.1 136) < 2147483648) ∧ (τ.2 32 (τ.1 136) = -1 → Pf E (s + 1) τ Q) ∧ (¬ τ.2 32 (τ.1 136) = -1 → Q 0 τ)))) : Pf E s σ Q := by
  apply Po_performOne_b4
  refine ⟨by omega, fun e => by omega, fun _ => ⟨by omega, fun e => absurd e (by decide), fun _ => ?_⟩⟩
  refine fb_mono h (fun r τ hτ => ?_)
  obtain ⟨t1, t2, t3⟩ := hτ
  refine ⟨t1, fun g => pf_end _ (by omega) (t2 g), fun g => ?_⟩
  obtain ⟨u1, u2, u3, u4⟩ := t3 g
  apply Po_labelHere_b0
  exact ⟨by omega, fun g => by omega, fun _ => ⟨fun g => by omega, fun _ => ⟨u1, u2, fun g => pf_end _ (by omega) (u4 g), fun g => u3 g⟩⟩⟩
end CP2
