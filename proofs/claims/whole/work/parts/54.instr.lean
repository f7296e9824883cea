/-! an instruction's code, whole -/
def it_te (z : Int → Int) (p : Int → Int → Int) (op a b : Int) : em_I := if op = 11 then it_zero z p a else it_below z p a b
/-- all items: sizes z, parts p; of the callee the first size zg and place pg; ga the address aimed at; lg long; pos where the branch begins -/
def it_in (z : Int → Int) (p : Int → Int → Int) (zg pg op a b c ga lg pos : Int) : em_I :=
  if op = 0 then it_set z p a b else if op = 1 then it_move z p a b else if op = 2 then [(12, 0)] ++ it_comb z p 2 a b c else if op = 3 then [(13, 0)] ++ it_comb z p 3 a b c else if op ≤ 6 then it_comb z p op a b c
  else if op = 7 then it_dbl z p a else if op = 8 then it_idx z p b c ++ it_load z p a b else if op = 9 then it_idx z p a b ++ it_store p a c else if op = 10 then [(18, ga)] else if op = 11 then it_te z p 11 a b ++ it_br 14 pos ga lg else if op = 12 then it_te z p 12 a b ++ it_br 16 pos ga lg
  else if op = 13 then it_par p zg pg b ++ [(19, ga)] ++ it_res z p c else if op = 14 then it_ret p a else it_out z p a
section ASZ
variable {E : fb_E} {σ τ : fb_S} {f : Int} {l : em_I} {Q : Int → fb_S → Prop}
theorem as_P34 {k v : Int} (h : as_P σ f) : as_P (fb_sm σ 34 k v) f := by
  obtain ⟨h1, h2, h3, h4⟩ := h
  have hA := h1.1
  unfold iv_A at hA
  have fr : fr_a [34] [] σ (fb_sm σ 34 k v) := fr_sm (fr_rf _ _ _) (by decide)
  have ok : fr_ok [34] [] := by unfold fr_ok; simp
  refine ⟨fr_P ok fr h1, h2, h3, fun g w g0 g1 w0 w1 => ?_⟩
  have g1' : g < σ.1 41 := g1
  rw [fb_ne (show (13 : Nat) ≠ 34 by decide)] at w1
  rw [fb_ne (show 25 + g.toNat ≠ 34 by omega), iv_z_same (σ := σ) (σ' := fb_sm σ 34 k v) (fun a ha => fr_p2 ok fr ha) g0 (by omega)]
  exact h4 g w g0 g1' w0 w1
theorem as_z34 {k v : Int} {g : Int} (g0 : 0 ≤ g) (g6 : g < 6) : iv_z (fb_sm σ 34 k v) g = iv_z σ g := by
  funext w
  have fr : fr_a [34] [] σ (fb_sm σ 34 k v) := fr_sm (fr_rf _ _ _) (by decide)
  have ok : fr_ok [34] [] := by unfold fr_ok; simp
  exact iv_z_same (σ := σ) (σ' := fb_sm σ 34 k v) (fun a ha => fr_p2 ok fr ha) g0 g6
theorem as_pt34 {k v : Int} {g : Int} (g0 : 0 ≤ g) (g6 : g < 6) : as_pt (fb_sm σ 34 k v) g = as_pt σ g := by
  funext w i
  unfold as_pt
  rw [as_z34 g0 g6, fb_ne (show 25 + g.toNat ≠ 34 by omega)]
theorem as_cx34 {k v : Int} (h : as_cx σ f τ l) : as_cx (fb_sm σ 34 k v) f (fb_sm τ 34 k v) l := by
  obtain ⟨⟨⟨a1, a1'⟩, a2, a3, a4, a5⟩, h2, h3, h4, h5⟩ := h
  refine ⟨⟨⟨a1, fun a ha => ?_⟩, a2, a3, fun j j0 j1 => ?_, fun i b hb hi => ?_⟩, h2, as_P34 h3, h4, h5⟩
  · funext j
    rw [fb_a2, fb_a2, a1' a ha]
  · rw [fb_ne (by decide), fb_ne (by decide)]; exact a4 j j0 j1
  · rw [fb_ne (by decide)]; exact a5 i b hb hi
theorem ct_opposite (n : Int) (hn : n = 14 ∨ n = 16) (k : Q (n + 1) σ) : fb_V E fb_As_opposite 0 [.inl n] [] σ Q := by
  apply As_opposite_b0
  refine ⟨by omega, fun q => ?_, fun q => ?_⟩
  · rw [show n + 1 = 17 by omega] at k; exact k
  · rw [show n + 1 = 15 by omega] at k; exact k
theorem ct_emitBranch (h : as_cx σ f τ l) (hl : l.length ≤ 20) (n k : Int) (hn : n = 14 ∨ n = 16) (hk : 0 ≤ k ∧ k < σ.1 42) (hgi : 0 ≤ σ.2 14 (σ.2 16 k) + iv_tg σ k ∧ σ.2 14 (σ.2 16 k) + iv_tg σ k < 60) (had : 0 ≤ σ.2 33 (σ.2 14 (σ.2 16 k) + iv_tg σ k) ∧ σ.2 33 (σ.2 14 (σ.2 16 k) + iv_tg σ k) < 65536) (hlg : σ.2 36 k = 0 ∨ σ.2 36 k = 1)
    (kk : ∀ ρ, as_cx (fb_sm σ 34 k (τ.1 104)) f ρ (l ++ it_br n (τ.1 104) (σ.2 33 (σ.2 14 (σ.2 16 k) + iv_tg σ k)) (σ.2 36 k)) → Q 0 ρ) : fb_V E fb_As_emitBranch 0 [.inr 3, .inl n, .inl k, .inr 999] [] τ Q := by
  have bl : ∀ m : em_I, m.length ≤ 10 → Nat.ble ((l ++ m).length + 1) 40 = true := fun m hm => by rw [Nat.ble_eq, List.length_append]; omega
  have e42 : τ.1 42 = σ.1 42 := h.1.1.1 42 (by decide)
  have hik := iv_k h.P hk.1 (by omega)
  have hA := h.P.1
  unfold iv_A at hA
  have e14 := h.arr (a := 14) (by decide)
  have e16 := h.arr (a := 16) (by decide)
  have etg := fr_tg as_ok31 h.1.1 k
  have e33 := h.arr (a := 33) (by decide)
  have e36 := h.arr (a := 36) (by decide)
  have hs := h.S
  unfold as_S at hs
  apply As_emitBranch_b0
  apply ct_goalOf k (by omega) hik.2.2.2.1.1 (by omega)
  rw [e14, e16, etg, e33, e36]
  generalize hg : σ.2 33 (σ.2 14 (σ.2 16 k) + iv_tg σ k) = ga at *
  have c0 := as_cx34 (k := k) (v := τ.1 104) h
  refine ⟨hgi, by omega, by omega, fun q => ?_, fun q => ?_⟩
  · apply as_raw c0 30 _ (by omega) (by omega) (by rw [Nat.ble_eq]; omega)
    intro ρ1 c1
    rw [c1.arr (a := 34) (by decide), fb_at, if_pos rfl]
    apply as_raw c1 30 _ (by omega) (by omega) (bl [_] (by simp))
    intro ρ2 c2
    exact kk ρ2 (as_more (as_asc c2) (by unfold it_br; rw [if_pos q]; rfl))
  · apply ct_opposite n hn
    apply as_raw c0 30 _ (by omega) (by omega) (by rw [Nat.ble_eq]; omega)
    intro ρ1 c1
    apply as_raw c1 30 _ (by omega) (by omega) (bl [_] (by simp))
    intro ρ2 c2
    have c2 := as_asc c2
    apply As_emitJump_b0
    apply as_raw c2 30 _ (by omega) (by omega) (bl [_, _] (by simp))
    intro ρ3 c3
    have c3 := as_asc c3
    apply as_raw c3 30 _ (by omega) (by omega) (bl [_, _, _] (by simp))
    intro ρ4 c4
    have c4 := as_asc c4
    refine ⟨by omega, ?_⟩
    apply as_raw c4 30 _ (by omega) (by omega) (bl [_, _, _, _] (by simp))
    intro ρ5 c5
    exact kk ρ5 (as_more (as_asc c5) (by unfold it_br; rw [if_neg q]; rfl))
/-- where the branch of an instruction begins -/
def as_pos (σ : fb_S) (f op a b : Int) : Int := σ.1 104 + (em_B (σ.1 106) (it_te (iv_z σ f) (as_pt σ f) op a b)).length
def as_ga (σ : fb_S) (f k : Int) : Int := if σ.2 17 k = 13 then σ.2 33 (σ.2 14 (σ.2 18 k)) else σ.2 33 (σ.2 14 f + iv_tg σ k)
def as_it (σ : fb_S) (f k : Int) : em_I := it_in (iv_z σ f) (as_pt σ f) (iv_z σ (σ.2 18 k) 0) (σ.2 (25 + (σ.2 18 k).toNat) 0) (σ.2 17 k) (σ.2 18 k) (σ.2 19 k) (σ.2 20 k) (as_ga σ f k) (σ.2 36 k) (as_pos σ f (σ.2 17 k) (σ.2 18 k) (σ.2 19 k))
theorem ct_instr (hS : as_S σ 800000) (hP : as_P σ f) (k : Int) (hk : 0 ≤ k ∧ k < σ.1 42) (how : σ.2 16 k = f) (ht : iv_tk σ k) (hc : iv_ck σ k) (had : ∀ j, 0 ≤ j → j < 60 → 0 ≤ σ.2 33 j ∧ σ.2 33 j < 65536) (hlg : σ.2 36 k = 0 ∨ σ.2 36 k = 1) (hne : ∀ g, 0 ≤ g → g < σ.1 41 → ¬ σ.2 15 g = 0)
    (k0 : ¬ (σ.2 17 k = 11 ∨ σ.2 17 k = 12) → ∀ ρ, as_cx σ f ρ (as_it σ f k) → Q 0 ρ) (k1 : (σ.2 17 k = 11 ∨ σ.2 17 k = 12) → ∀ ρ, as_cx (fb_sm σ 34 k (as_pos σ f (σ.2 17 k) (σ.2 18 k) (σ.2 19 k))) f ρ (as_it σ f k) → Q 0 ρ) :
    fb_V E fb_As_emitInstruction 0 [.inr 3, .inl k, .inl (σ.2 18 k), .inl (σ.2 19 k), .inl (σ.2 20 k)] [] σ Q := by
  have h := as_cx_0 hS hP
  have h6 := h.f6
  have hik := iv_k hP.1 hk.1 hk.2
  have hG := hP.1.2.2.2.2.1
  have hA := hP.1.1
  unfold iv_A at hA
  rw [how] at hik
  obtain ⟨hk1, hk2, hk3, hfi, hk5⟩ := hik
  have hgf := hG f h6.1.1 h6.2.1
  have hgi : iv_isT (σ.2 17 k) → 0 ≤ σ.2 14 f + iv_tg σ k ∧ σ.2 14 f + iv_tg σ k < 60 := by
    intro q
    have := ht q
    rw [how] at this
    omega
  obtain ⟨q0, q1, q2, q3, p0, p1, p2, p7, p8, p9, p11, p12, p13, p14, p15⟩ := hfi
  unfold as_it at k0 k1
  generalize hop : σ.2 17 k = op at *
  apply As_emitInstruction_b0
  rw [hop]
  refine ⟨by omega, by omega, fun e => ?_, fun e => ?_, fun e => ?_, fun e => ?_, fun e => ?_, fun e => ?_, fun e => ?_, fun e => ?_, fun e => ?_, fun e => ?_, fun e => ?_, fun e => ?_, fun e => ?_, fun e => ?_, fun e => ?_, fun e => ?_⟩
  · have := p0 e
    apply ct_emitSet h (by simp) _ _ this.1 this.2
    subst e
    exact k0 (by omega)
  · have := p1 e
    apply ct_emitMove h (by simp) _ _ this.1 this.2
    subst e
    exact k0 (by omega)
  · have := p2 (by omega)
    apply as_al h 12 (by omega) rfl
    intro ρ1 c1
    apply ct_emitCombine c1 (by simp) 2 _ _ _ (by omega) this.1 this.2.1 this.2.2
    subst e
    exact k0 (by omega)
  · have := p2 (by omega)
    apply as_al h 13 (by omega) rfl
    intro ρ1 c1
    apply ct_emitCombine c1 (by simp) 3 _ _ _ (by omega) this.1 this.2.1 this.2.2
    subst e
    exact k0 (by omega)
  · have := p2 (by omega)
    apply ct_emitCombine h (by simp) 4 _ _ _ (by omega) this.1 this.2.1 this.2.2
    subst e
    exact k0 (by omega)
  · have := p2 (by omega)
    apply ct_emitCombine h (by simp) 5 _ _ _ (by omega) this.1 this.2.1 this.2.2
    subst e
    exact k0 (by omega)
  · have := p2 (by omega)
    apply ct_emitCombine h (by simp) 6 _ _ _ (by omega) this.1 this.2.1 this.2.2
    subst e
    exact k0 (by omega)
  · apply ct_emitDouble h (by simp) _ (p7 e)
    subst e
    exact k0 (by omega)
  · have := p8 e
    apply ct_emitIndex h (by simp) _ _ this.2.2 this.2.1
    intro ρ1 c1
    apply ct_emitLoad c1 (by simp [it_idx]) _ _ this.1 this.2.1
    subst e
    exact k0 (by omega)
  · have := p9 e
    apply ct_emitIndex h (by simp) _ _ this.2.1 this.1
    intro ρ1 c1
    apply ct_emitStore c1 (by simp [it_idx]) _ _ this.2.2 this.1
    subst e
    exact k0 (by omega)
  · have hg2 := hgi (Or.inl e)
    apply ct_goalOf k (by omega) (by rw [hop]; omega) (by omega)
    rw [how]
    refine ⟨hg2, ?_⟩
    have ha := had _ hg2.1 hg2.2
    apply as_jmp h 18 _ (by omega) ha rfl _ rfl
    intro ρ c
    rw [if_neg (by decide)]
    refine k0 (by omega) ρ ?_
    subst e
    have : as_ga σ f k = σ.2 33 (σ.2 14 f + iv_tg σ k) := by unfold as_ga; rw [hop]; rfl
    rw [this]
    exact c
  · have hg2 := hgi (Or.inr (Or.inl e))
    have ha := had _ hg2.1 hg2.2
    apply ct_emitZero h (by simp) _ (p11 e)
    intro ρ1 c1
    have ep : ρ1.1 104 = as_pos σ f op (σ.2 18 k) (σ.2 19 k) := by
      subst e
      exact c1.1.2.1
    apply ct_emitBranch c1 (by unfold it_zero; split <;> simp) 14 k (by omega) hk (by rw [how]; exact hg2) (by rw [how]; exact ha) hlg
    rw [ep, how]
    intro ρ2 c2
    refine k1 (Or.inl e) ρ2 ?_
    subst e
    have : as_ga σ f k = σ.2 33 (σ.2 14 f + iv_tg σ k) := by unfold as_ga; rw [hop]; rfl
    rw [this]
    exact c2
  · have hg2 := hgi (Or.inr (Or.inr e))
    have ha := had _ hg2.1 hg2.2
    have := p12 e
    apply ct_emitBelow h (by simp) _ _ this.1 this.2
    intro ρ1 c1
    have ep : ρ1.1 104 = as_pos σ f op (σ.2 18 k) (σ.2 19 k) := by
      subst e
      exact c1.1.2.1
    apply ct_emitBranch c1 (by unfold it_below; split <;> simp) 16 k (by omega) hk (by rw [how]; exact hg2) (by rw [how]; exact ha) hlg
    rw [ep, how]
    intro ρ2 c2
    refine k1 (Or.inr e) ρ2 ?_
    subst e
    have : as_ga σ f k = σ.2 33 (σ.2 14 f + iv_tg σ k) := by unfold as_ga; rw [hop]; rfl
    rw [this]
    exact c2
  · have := p13 e
    have hcc := hc (hop.trans e)
    have hgc := hG (σ.2 18 k) hcc.1 hcc.2
    have hbc := hP.1.2.1 (σ.2 18 k) hcc.1 (by omega)
    have hnz := hne _ hcc.1 hcc.2
    have hfs : 0 ≤ σ.2 14 (σ.2 18 k) ∧ σ.2 14 (σ.2 18 k) < 60 := by omega
    apply ct_emitCall h (by simp) (σ.2 18 k) _ _ hcc this.1 this.2 hfs (had _ hfs.1 hfs.2)
    intro ρ c
    refine k0 (by omega) ρ ?_
    subst e
    have : as_ga σ f k = σ.2 33 (σ.2 14 (σ.2 18 k)) := by unfold as_ga; rw [hop]; rfl
    rw [this]
    exact c
  · apply ct_emitReturn h (by simp) _ (p14 e)
    subst e
    exact k0 (by omega)
  · have e15 : op = 15 := by omega
    apply ct_emitOut h (by simp) _ (p15 e15)
    subst e15
    exact k0 (by omega)
end ASZ
