/-! one instruction of the reference's pass -/
theorem it_in_b {z : Int → Int} {p : Int → Int → Int} {zg pg op a b c ga lg lg' pos pos' : Int} (h : ¬ (op = 11 ∨ op = 12)) : it_in z p zg pg op a b c ga lg pos = it_in z p zg pg op a b c ga lg' pos' := by
  unfold it_in
  rw [if_neg (show ¬ op = 11 by omega), if_neg (show ¬ op = 12 by omega)]
  rw [if_neg (show ¬ op = 11 by omega), if_neg (show ¬ op = 12 by omega)]
def kx (π : fb_S) (k : Int) : Int := 24 * π.2 16 k + (k - π.2 14 (π.2 16 k))
noncomputable def ly_w1 (π : fb_S) (L : Int → Int) (k : Int) : Int := em_W (ly_i π L k) (if π.2 17 k = 13 then it_par (ly_p π (π.2 16 k)) (iv_z π (π.2 18 k) 0) (ly_p π (π.2 18 k) 0 0) (π.2 19 k) ++ [(19, 0)] else ly_it π k 0 (L k) 0)
noncomputable def ly_w2 (π : fb_S) (k : Int) : Int := em_W (-1) (it_res (iv_z π (π.2 16 k)) (ly_p π (π.2 16 k)) (π.2 20 k))
section MON
variable {E : fb_E} {π σ τ : fb_S} {L : Int → Int} {f i k : Int} {Q : Int → fb_S → Prop}
theorem kx_fi (hP : iv_P π) (f0 : 0 ≤ f) (f1 : f < π.1 41) (i0 : 0 ≤ i) (i1 : i < π.2 15 f) : kx π (π.2 14 f + i) = 24 * f + i := by
  have := (iv_fk hP f0 f1 i0 i1).2.1
  unfold kx
  rw [this]
  omega
theorem em_W_it (k ga lg pos h : Int) : em_W h (ly_it π k ga lg pos) = em_W h (ly_it π k 0 lg 0) := by
  rw [← (em_er (ly_it π k ga lg pos) _).2.2, ← (em_er (ly_it π k 0 lg 0) _).2.2]
  unfold ly_it
  rw [it_in_er _ _ _ _ _ _ _ _ ga lg pos 0 0]
theorem mo_ptp (g : pg π σ) (h47 : ∀ x, 0 ≤ x → x < 6 → σ.2 47 x = iv_bs π x) (f0 : 0 ≤ f) (f6 : f < 6) (v i : Int) : mo_pt σ f v i = ly_p π f v i := by
  unfold mo_pt ly_p
  rw [g.z f0 f6, h47 f f0 f6, g.ps f6]
/-- what an instruction's code has done -/
def mo_Z (π : fb_S) (L : Int → Int) (k : Int) (σ ρ : fb_S) : Prop := fr_a [49, 53, 54] [173, 175, 181] σ ρ ∧ ρ.1 173 = ly_a π L (k + 1) ∧ (ρ.1 175 = ly_o π L (k + 1) ∧ (-1 ≤ ρ.1 175 ∧ ρ.1 175 < 512)) ∧ (∀ j, 0 ≤ j → j < ly_a π L k → ρ.2 49 j = σ.2 49 j) ∧ (∀ (n : Nat) (b : Int), (em_B (ly_i π L k) (ly_it π k (σ.2 50 (kx π (ly_gi π k))) (L k) (ly_b π L k)))[n]? = some b → ρ.2 49 (ly_a π L k + n) = b) ∧ (∀ j, j ≠ kx π k → ρ.2 53 j = σ.2 53 j ∧ ρ.2 54 j = σ.2 54 j) ∧ ρ.2 53 (kx π k) = ly_w1 π L k ∧ (π.2 17 k = 13 → ρ.2 54 (kx π k) = ly_w2 π k)
theorem mo_P_of (hP : iv_P π) (hg : iv_good π) (g : pg π σ) (h47 : ∀ x, 0 ≤ x → x < 6 → σ.2 47 x = iv_bs π x) (f0 : 0 ≤ f) (f1 : f < π.1 41) : mo_P σ f := by
  have hA := hP.1
  unfold iv_A at hA
  refine ⟨g.P hP, by rw [g.2.1]; omega, fun x x0 x1 => ?_⟩
  rw [g.2.1] at x1
  rw [h47 x x0 (by omega)]
  have h1 := iv_bs_0 hP x
  have h2 := hg.2.2.2.2 x x0 x1
  have h3 : iv_fs σ x = iv_fs π x := by unfold iv_fs; rw [g.ps (by omega), g.a 13 (by omega)]
  rw [h3]
  exact ⟨h1, h2⟩
theorem mo_instr (hP : iv_P π) (hg : iv_good π) (g : pg π σ) (h47 : ∀ x, 0 ≤ x → x < 6 → σ.2 47 x = iv_bs π x) (h50 : ∀ j, 0 ≤ j → j < 144 → 0 ≤ σ.2 50 j ∧ σ.2 50 j < 65536) (f0 : 0 ≤ f) (f1 : f < π.1 41) (i0 : 0 ≤ i) (i1 : i < π.2 15 f) (hk : k = π.2 14 f + i) (hlg : σ.2 52 (24 * f + i) = 0 ∨ σ.2 52 (24 * f + i) = 1) (hS : mo_S σ) (h181 : σ.1 181 = 0) (hL : L k = σ.2 52 (24 * f + i)) (e173 : σ.1 173 = ly_a π L k) (e175 : σ.1 175 = ly_i π L k)
    (kq : ∀ ρ, mo_Z π L k σ ρ → fb_V E fb_Mo_layOut 25 [.inr 5, .inl f, .inl (24 * f + i + 1), .inr 999] [] ρ Q) {σ0 : fb_S} (e0 : fb_sg (fb_sm σ0 50 (24 * f + i) (σ0.1 173)) 181 0 = σ) :
    fb_V E fb_Mo_layOut 61 [.inr 5, .inl f, .inl (24 * f + i), .inl (π.2 17 k)] [] σ0 Q := by
  have hA := hP.1
  unfold iv_A at hA
  have f6 : f < 6 := by omega
  have hb15 := hP.2.1 f f0 f6
  have hfk := iv_fk hP f0 f1 i0 i1
  rw [← hk] at hfk
  obtain ⟨k0, k1⟩ := hfk.1
  have ef : π.2 16 k = f := hfk.2.1
  have hkx : kx π k = 24 * f + i := by rw [hk]; exact kx_fi hP f0 f1 i0 i1
  have hik := iv_k hP k0 k1
  rw [ef] at hik
  have hfi := hik.2.2.2.1
  have e43 : σ.2 43 (24 * f + i) = π.2 17 k := by rw [g.a 43 (by omega)]; exact hfk.2.2.1
  have e44 : σ.2 44 (24 * f + i) = π.2 18 k := by rw [g.a 44 (by omega)]; exact hfk.2.2.2.1
  have e45 : σ.2 45 (24 * f + i) = π.2 19 k := by rw [g.a 45 (by omega)]; exact hfk.2.2.2.2.1
  have e46 : σ.2 46 (24 * f + i) = π.2 20 k := by rw [g.a 46 (by omega)]; exact hfk.2.2.2.2.2.1
  have hPf : mo_P σ f := mo_P_of hP hg g h47 f0 f1
  have hz : iv_z σ f = iv_z π f := g.z f0 f6
  have hpt : ∀ v j, mo_pt σ f v j = ly_p π f v j := fun v j => mo_ptp g h47 f0 f6 v j
  have hK : 0 ≤ 24 * f + i ∧ 24 * f + i < 144 := by omega
  have hab := ly_a_b (π := π) (L := L) k0
  -- the end of all but CALL
  have fin : ¬ π.2 17 k = 13 → ∀ (ρ : fb_S) (ga pos lg : Int), ((π.2 17 k = 10 ∨ π.2 17 k = 11 ∨ π.2 17 k = 12 ∨ π.2 17 k = 13) → ga = σ.2 50 (kx π (ly_gi π k))) → ((π.2 17 k = 11 ∨ π.2 17 k = 12) → pos = ly_b π L k ∧ lg = L k) → mo_cx σ f ρ (it_in (iv_z σ f) (mo_pt σ f) 0 0 (π.2 17 k) (π.2 18 k) (π.2 19 k) (π.2 20 k) ga lg pos) → fb_V E fb_Mo_layOut 184 [.inr 5, .inl f, .inl (24 * f + i), .inl (π.2 17 k)] [] ρ Q := by
    intro h13 ρ ga pos lg hga hpos c
    have eit : it_in (iv_z σ f) (mo_pt σ f) 0 0 (π.2 17 k) (π.2 18 k) (π.2 19 k) (π.2 20 k) ga lg pos = ly_it π k (σ.2 50 (kx π (ly_gi π k))) (L k) (ly_b π L k) := by
      unfold ly_it
      rw [ef, hz, it_in_p _ _ _ (fun v => hpt v 0) (fun v => hpt v 1) 0 0 0 (fun _ => rfl), it_in_g (zg' := iv_z π (π.2 18 k) 0) (pg' := ly_p π (π.2 18 k) 0 0) h13]
      have s1 : it_in (iv_z π f) (ly_p π f) (iv_z π (π.2 18 k) 0) (ly_p π (π.2 18 k) 0 0) (π.2 17 k) (π.2 18 k) (π.2 19 k) (π.2 20 k) ga lg pos = it_in (iv_z π f) (ly_p π f) (iv_z π (π.2 18 k) 0) (ly_p π (π.2 18 k) 0 0) (π.2 17 k) (π.2 18 k) (π.2 19 k) (π.2 20 k) ga (L k) (ly_b π L k) := by
        by_cases hb : π.2 17 k = 11 ∨ π.2 17 k = 12
        · rw [(hpos hb).1, (hpos hb).2]
        · exact it_in_b hb
      rw [s1]
      by_cases ho : π.2 17 k = 10 ∨ π.2 17 k = 11 ∨ π.2 17 k = 12 ∨ π.2 17 k = 13
      · rw [hga ho]
      · exact it_in_a ho
    rw [eit] at c
    have hs := c.S
    obtain ⟨⟨c1, c2, c3, c4, c5, c6⟩, -⟩ := c
    rw [e173, e175, ← ly_a_s k0] at c2
    rw [e175, ← ly_o_s k0] at c3
    rw [e175, h181, em_W_it, Int.zero_add] at c4
    apply Mo_layOut_b184
    refine ⟨by have := hfi.1; omega, fun q => absurd q h13, fun _ => ⟨hK, kq _ ⟨fr_sm (fr_up c1 (by simp) (by simp)) (by decide), c2, ⟨c3, hs.2⟩, fun j j0 j1 => ?_, fun n b hb => ?_, fun j hj => ?_, ?_, fun q => absurd q h13⟩⟩⟩
    · rw [fb_ne (by decide)]; exact c5 j j0 (by omega)
    · rw [fb_ne (by decide), ← e173]
      rw [← e175] at hb
      exact c6 n b hb
    · rw [fb_at, fb_ne (by decide), if_neg (by rw [hkx] at hj; exact hj), c1.2 53 (by simp), c1.2 54 (by simp)]
      exact ⟨rfl, rfl⟩
    · rw [hkx, fb_at, if_pos rfl, c4]
      unfold ly_w1
      rw [if_neg h13]
  obtain ⟨q0, q1, q2, q3, p0, p1, p2, p7, p8, p9, p11, p12, p13, p14, p15⟩ := hfi
  rw [← hz] at p0 p1 p2 p7 p8 p9 p11 p12 p13 p14 p15
  have oth : (π.2 17 k = 0 ∨ π.2 17 k = 1 ∨ π.2 17 k = 7 ∨ π.2 17 k = 14 ∨ π.2 17 k = 15) → fb_V E fb_Mo_others 0 [.inr 5, .inl f, .inl (24 * f + i), .inr 999, .inr 999, .inr 999, .inr 999, .inr 999] [] σ (fun _ s => fb_V E fb_Mo_layOut 184 [.inr 5, .inl f, .inl (24 * f + i), .inl (π.2 17 k)] [] s Q) := by
    intro ho
    have ha : iv_sc (iv_z σ f) (π.2 18 k) := by
      rcases ho with e | e | e | e | e
      · exact (p0 e).1
      · exact (p1 e).1
      · exact p7 e
      · exact p14 e
      · exact p15 e
    apply mo_others hS hPf _ _ _ _ hK e43 e44 e45 ho ha (fun e => (p0 e).2) (fun e => (p1 e).2)
    intro ρ c
    refine fin (by omega) ρ 0 0 0 (fun q => by omega) (fun q => by omega) ?_
    have : it_in (iv_z σ f) (mo_pt σ f) 0 0 (π.2 17 k) (π.2 18 k) (π.2 19 k) (π.2 20 k) 0 0 0 = if π.2 17 k = 0 then it_set (iv_z σ f) (mo_pt σ f) (π.2 18 k) (π.2 19 k) else if π.2 17 k = 1 then it_move (iv_z σ f) (mo_pt σ f) (π.2 18 k) (π.2 19 k) else if π.2 17 k = 7 then it_dbl (iv_z σ f) (mo_pt σ f) (π.2 18 k) else if π.2 17 k = 14 then it_ret (mo_pt σ f) (π.2 18 k) else it_out (iv_z σ f) (mo_pt σ f) (π.2 18 k) := by
      clear c fin
      unfold it_in
      rcases ho with e | e | e | e | e <;> rw [e] <;> rfl
    rw [this]
    exact c
  have arr : (π.2 17 k = 8 ∨ π.2 17 k = 9) → fb_V E fb_Mo_arrays 0 [.inr 5, .inl f, .inl (24 * f + i), .inr 999, .inr 999, .inr 999, .inr 999, .inr 999] [] σ (fun _ s => fb_V E fb_Mo_layOut 184 [.inr 5, .inl f, .inl (24 * f + i), .inl (π.2 17 k)] [] s Q) := by
    intro ho
    apply mo_arrays hS hPf _ _ _ _ _ hK e43 e44 e45 e46 ho p8 p9
    intro ρ c
    refine fin (by omega) ρ 0 0 0 (fun q => by omega) (fun q => by omega) ?_
    have : it_in (iv_z σ f) (mo_pt σ f) 0 0 (π.2 17 k) (π.2 18 k) (π.2 19 k) (π.2 20 k) 0 0 0 = if π.2 17 k = 8 then it_idx (iv_z σ f) (mo_pt σ f) (π.2 19 k) (π.2 20 k) ++ it_load (iv_z σ f) (mo_pt σ f) (π.2 18 k) (π.2 19 k) else it_idx (iv_z σ f) (mo_pt σ f) (π.2 18 k) (π.2 19 k) ++ it_store (mo_pt σ f) (π.2 18 k) (π.2 20 k) := by
      clear c fin
      unfold it_in
      rcases ho with e | e <;> rw [e] <;> rfl
    rw [this]
    exact c
  have ari : (2 ≤ π.2 17 k ∧ π.2 17 k ≤ 6) → fb_V E fb_Mo_arithmetic 0 [.inr 5, .inl f, .inl (24 * f + i), .inr 999, .inr 999, .inr 999, .inr 999, .inr 999, .inr 999] [] σ (fun _ s => fb_V E fb_Mo_layOut 184 [.inr 5, .inl f, .inl (24 * f + i), .inl (π.2 17 k)] [] s Q) := by
    intro ho
    apply mo_arith hS hPf _ _ _ _ _ hK e43 e44 e45 e46 ho (p2 ho).1 (p2 ho).2.1 (p2 ho).2.2
    intro ρ c
    refine fin (by omega) ρ 0 0 0 (fun q => by omega) (fun q => by omega) ?_
    have : it_in (iv_z σ f) (mo_pt σ f) 0 0 (π.2 17 k) (π.2 18 k) (π.2 19 k) (π.2 20 k) 0 0 0 = if π.2 17 k = 2 then [(12, 0)] ++ it_comb (iv_z σ f) (mo_pt σ f) 2 (π.2 18 k) (π.2 19 k) (π.2 20 k) else if π.2 17 k = 3 then [(13, 0)] ++ it_comb (iv_z σ f) (mo_pt σ f) 3 (π.2 18 k) (π.2 19 k) (π.2 20 k) else it_comb (iv_z σ f) (mo_pt σ f) (π.2 17 k) (π.2 18 k) (π.2 19 k) (π.2 20 k) := by
      clear c fin
      unfold it_in
      rw [if_neg (show ¬ π.2 17 k = 0 by omega), if_neg (show ¬ π.2 17 k = 1 by omega), if_pos ho.2]
    rw [this]
    exact c
  have egi : (π.2 17 k = 10 ∨ π.2 17 k = 11 ∨ π.2 17 k = 12) → (0 ≤ iv_tg π k ∧ iv_tg π k < π.2 15 f) ∧ kx π (ly_gi π k) = 24 * f + iv_tg π k := by
    intro ho
    have ht := hg.2.1 k k0 k1 (show iv_isT (π.2 17 k) by unfold iv_isT; omega)
    rw [ef] at ht
    have : ly_gi π k = π.2 14 f + iv_tg π k := by unfold ly_gi; rw [if_neg (by omega), ef]
    rw [this]
    exact ⟨ht, kx_fi hP f0 f1 ht.1 ht.2⟩
  have tes : (π.2 17 k = 11 ∨ π.2 17 k = 12) → fb_V E fb_Mo_tests 0 [.inr 5, .inl f, .inl (24 * f + i), .inr 999, .inr 999, .inr 999, .inr 999, .inr 999, .inr 999] [] σ (fun _ s => fb_V E fb_Mo_layOut 184 [.inr 5, .inl f, .inl (24 * f + i), .inl (π.2 17 k)] [] s Q) := by
    intro ho
    have he := egi (by omega)
    have et : iv_tg σ (σ.2 14 f + i) = iv_tg π k := by rw [g.tg, g.a 14 (by omega), ← hk]
    have ha : iv_sc (iv_z σ f) (π.2 18 k) := by
      rcases ho with e | e
      · exact p11 e
      · exact (p12 e).1
    apply mo_tests hS hPf i _ _ _ ⟨i0, by rw [g.a 15 (by omega)]; exact i1⟩ e43 e44 e45 ho ha (fun e => (p12 e).2) (by rw [et, g.a 15 (by omega)]; exact he.1) h50 hlg
    intro ρ c
    rw [et] at c
    have epos : mo_pos σ f (π.2 17 k) (π.2 18 k) (π.2 19 k) = ly_b π L k := by
      unfold mo_pos ly_b ly_te
      rw [e173, e175, hz, ef, it_te_p _ _ _ (fun v => hpt v 0) (fun v => hpt v 1)]
    rw [epos, ← hL] at c
    refine fin (by omega) ρ (σ.2 50 (24 * f + iv_tg π k)) (ly_b π L k) (L k) (fun _ => by rw [he.2]) (fun _ => ⟨rfl, rfl⟩) ?_
    have : it_in (iv_z σ f) (mo_pt σ f) 0 0 (π.2 17 k) (π.2 18 k) (π.2 19 k) (π.2 20 k) (σ.2 50 (24 * f + iv_tg π k)) (L k) (ly_b π L k) = it_te (iv_z σ f) (mo_pt σ f) (π.2 17 k) (π.2 18 k) (π.2 19 k) ++ it_br (if π.2 17 k = 11 then 14 else 16) (ly_b π L k) (σ.2 50 (24 * f + iv_tg π k)) (L k) := by
      clear c fin
      unfold it_in
      rcases ho with e | e <;> rw [e] <;> rfl
    rw [this]
    exact c
  have goto : π.2 17 k = 10 → fb_V E fb_Mo_goal 0 [.inr 5, .inl (24 * f + i)] [] σ (fun r14 s15 => (0 ≤ ((24 * f) + r14) ∧ ((24 * f) + r14) < 144) ∧ (fb_V E fb_Mo_to 0 [.inr 5, .inl 18, .inl (s15.2 50 ((24 * f) + r14))] [] s15 (fun _ s18 => fb_V E fb_Mo_layOut 184 [.inr 5, .inl f, .inl (24 * f + i), .inl (π.2 17 k)] [] s18 Q))) := by
    intro ho
    have he := egi (Or.inl ho)
    apply cm_goal (g.P hP) f0 (by rw [g.2.1]; exact f1) i0 (by rw [g.a 15 (by omega)]; exact i1)
    rw [g.tg, g.a 14 (by omega), ← hk]
    have h5 := h50 (24 * f + iv_tg π k) (by omega) (by omega)
    refine ⟨by omega, ?_⟩
    apply mo_to (mo_cx_0 hS hPf) 18 _ (by omega) h5 (by simp)
    intro ρ c
    refine fin (by omega) ρ (σ.2 50 (24 * f + iv_tg π k)) 0 0 (fun _ => by rw [he.2]) (fun q => by omega) ?_
    have : it_in (iv_z σ f) (mo_pt σ f) 0 0 (π.2 17 k) (π.2 18 k) (π.2 19 k) (π.2 20 k) (σ.2 50 (24 * f + iv_tg π k)) 0 0 = [(18, σ.2 50 (24 * f + iv_tg π k))] := by
      clear c fin
      unfold it_in
      rw [ho]
      rfl
    rw [this]
    exact c
  have cal : π.2 17 k = 13 → fb_V E fb_Mo_call 0 [.inr 5, .inl f, .inl (24 * f + i), .inr 999, .inr 999, .inr 999, .inr 999, .inr 999] [] σ (fun _ s => fb_V E fb_Mo_layOut 184 [.inr 5, .inl f, .inl (24 * f + i), .inl (π.2 17 k)] [] s Q) := by
    intro ho
    have hgc := hg.2.2.1 k k0 k1 ho
    have g6 : π.2 18 k < 6 := by omega
    have hzg : iv_z σ (π.2 18 k) = iv_z π (π.2 18 k) := g.z hgc.1 g6
    have hne := (hg.1.2 _ hgc.1 hgc.2).1
    have hbc := hP.2.1 _ hgc.1 g6
    have ekg : kx π (ly_gi π k) = 24 * π.2 18 k := by
      have e1 : ly_gi π k = π.2 14 (π.2 18 k) + 0 := by unfold ly_gi; rw [if_pos ho, Int.add_zero]
      rw [e1, kx_fi hP hgc.1 hgc.2 (Int.le_refl 0) (by omega), Int.add_zero]
    apply mo_call1 hS hPf _ _ _ hK e44 e45 (by rw [g.2.1]; exact hgc) (p13 ho).1 (h50 _ (by omega) (by omega))
    intro ρ c
    refine ⟨hK, ?_⟩
    rw [c.arr (a := 46) (by decide), e46]
    have eP : it_par (mo_pt σ f) (iv_z σ (π.2 18 k) 0) (mo_pt σ (π.2 18 k) 0 0) (π.2 19 k) = it_par (ly_p π f) (iv_z π (π.2 18 k) 0) (ly_p π (π.2 18 k) 0 0) (π.2 19 k) := by
      rw [hzg]
      exact it_par_p _ _ (fun v => hpt v 0) (fun v => hpt v 1) _ _ _ (fun _ => mo_ptp g h47 hgc.1 g6 0 0) _
    rw [eP] at c
    generalize hm1 : it_par (ly_p π f) (iv_z π (π.2 18 k) 0) (ly_p π (π.2 18 k) 0 0) (π.2 19 k) = m1 at c
    have hm1l : m1.length ≤ 4 := by
      rw [← hm1]
      unfold it_par
      repeat' split
      all_goals simp
    have hb1 := em_B_len (m1 ++ [(19, σ.2 50 (24 * π.2 18 k))]) (σ.1 175)
    rw [List.length_append] at hb1
    have hb1' : (em_B (σ.1 175) (m1 ++ [(19, σ.2 50 (24 * π.2 18 k))])).length ≤ 15 := by simp at hb1; omega
    obtain ⟨⟨c1, c2, c3, c4, c5, c6⟩, -⟩ := c
    have eH1 : em_H (σ.1 175) (m1 ++ [(19, σ.2 50 (24 * π.2 18 k))]) = -1 := by rw [em_H_app]; rfl
    rw [eH1] at c3
    obtain ⟨τ2, h2, y173, y175, y181, y49, y53, y54⟩ : ∃ τ2, τ2 = fb_sg (fb_sm ρ 53 (24 * f + i) (ρ.1 181)) 181 0 ∧ τ2.1 173 = ρ.1 173 ∧ τ2.1 175 = ρ.1 175 ∧ τ2.1 181 = 0 ∧ τ2.2 49 = ρ.2 49 ∧ (∀ j, τ2.2 53 j = if j = 24 * f + i then ρ.1 181 else ρ.2 53 j) ∧ τ2.2 54 = ρ.2 54 :=
      ⟨_, rfl, rfl, rfl, rfl, by rw [fb_sg2, fb_ne (by decide)], fun j => by rw [fb_sg2, fb_at], by rw [fb_sg2, fb_ne (by decide)]⟩
    have fr2 : fr_a [49, 53] [173, 175, 181] σ τ2 := by rw [h2]; exact fr_sg (fr_sm (fr_up c1 (by simp) (by simp)) (by decide)) (by decide)
    have ok2 : fr_ok [49, 53] [173, 175, 181] := by unfold fr_ok; simp
    rw [← h2]
    clear h2
    have g2 : pg π τ2 := g.fr ok2 fr2
    have h47' : ∀ x, 0 ≤ x → x < 6 → τ2.2 47 x = iv_bs π x := by rw [fr2.2 47 (by simp)]; exact h47
    have hz2 : iv_z τ2 f = iv_z π f := g2.z f0 f6
    apply mo_call2 ⟨by omega, by omega⟩ (mo_P_of hP hg g2 h47' f0 f1) _ _ hK (by rw [g2.a 46 (by omega), ← g.a 46 (by omega)]; exact e46) (by rw [hz2, ← hz]; exact (p13 ho).2)
    intro ρ2 c'
    have eR : it_res (iv_z τ2 f) (mo_pt τ2 f) (π.2 20 k) = it_res (iv_z π f) (ly_p π f) (π.2 20 k) := by
      unfold it_res
      rw [hz2, mo_ptp g2 h47' f0 f6, mo_ptp g2 h47' f0 f6]
    rw [eR] at c'
    have hs := c'.S
    generalize hm2 : it_res (iv_z π f) (ly_p π f) (π.2 20 k) = m2 at c'
    obtain ⟨⟨d1, d2, d3, d4, d5, d6⟩, -⟩ := c'
    rw [y175, c3] at d2 d3 d4 d6
    have eit : ly_it π k (σ.2 50 (kx π (ly_gi π k))) (L k) (ly_b π L k) = m1 ++ [(19, σ.2 50 (24 * π.2 18 k))] ++ m2 := by
      unfold ly_it it_in
      rw [ef, ekg, ho, hm1, hm2]
      rfl
    have eB : em_B (ly_i π L k) (m1 ++ [(19, σ.2 50 (24 * π.2 18 k))] ++ m2) = em_B (ly_i π L k) (m1 ++ [(19, σ.2 50 (24 * π.2 18 k))]) ++ em_B (-1) m2 := by
      rw [em_B_app, ← e175, eH1]
    apply Mo_layOut_b184
    refine ⟨by omega, fun _ => kq _ ⟨fr_sm (fr_tr (fr_up fr2 (by simp) (by simp)) (fr_up d1 (by simp) (by simp))) (by decide), ?_, ⟨?_, hs.2⟩, fun j j0 j1 => ?_, fun n b hb => ?_, fun j hj => ⟨?_, ?_⟩, ?_, fun _ => ?_⟩, fun q => absurd ho q⟩
    · rw [ly_a_s k0 (σ.2 50 (kx π (ly_gi π k))) (ly_b π L k), eit, eB, List.length_append, ← e175]
      show ρ2.1 173 = _
      omega
    · rw [ly_o_s k0 (σ.2 50 (kx π (ly_gi π k))) (ly_b π L k), eit, em_H_app, ← e175, eH1]
      exact d3
    · rw [fb_ne (by decide), d5 j j0 (by omega), y49]
      exact c5 j j0 (by omega)
    · rw [eit, eB] at hb
      rw [fb_ne (by decide)]
      by_cases hn : n < (em_B (ly_i π L k) (m1 ++ [(19, σ.2 50 (24 * π.2 18 k))])).length
      · rw [List.getElem?_append_left hn] at hb
        rw [← e175] at hn hb
        rw [d5 _ (by omega) (by omega), y49, ← e173]
        exact c6 n b hb
      · rw [List.getElem?_append_right (by omega)] at hb
        have := d6 _ b hb
        rw [← e175] at hn this
        rw [show τ2.1 173 + ((n - (em_B (σ.1 175) (m1 ++ [(19, σ.2 50 (24 * π.2 18 k))])).length : Nat) : Int) = ly_a π L k + n by omega] at this
        exact this
    · rw [hkx] at hj
      rw [fb_ne (by decide), d1.2 53 (by simp), y53, if_neg hj, c1.2 53 (by simp)]
    · rw [hkx] at hj
      rw [fb_at, if_neg hj, d1.2 54 (by simp), y54, c1.2 54 (by simp)]
    · rw [hkx, fb_ne (by decide), d1.2 53 (by simp), y53, if_pos rfl, c4, h181, Int.zero_add]
      unfold ly_w1
      rw [if_pos ho, ef, hm1, em_W_app, em_W_app, e175]
      rfl
    · rw [hkx, fb_at, if_pos rfl, d4, y181, Int.zero_add]
      unfold ly_w2
      rw [ef, hm2]
  clear fin
  apply Mo_layOut_b61
  rw [e0]
  have br : ¬ (π.2 17 k = 8 ∨ π.2 17 k = 9 ∨ π.2 17 k = 10 ∨ (2 ≤ π.2 17 k ∧ π.2 17 k ≤ 6)) → fb_V E fb_Mo_branches 0 [.inl (π.2 17 k)] [] σ (fun r5 s6 => (-2147483648 ≤ r5 ∧ r5 < 2147483648) ∧ ((r5 = 0 → (¬ π.2 17 k = 13 → fb_V E fb_Mo_others 0 [.inr 5, .inl f, .inl (24 * f + i), .inr 999, .inr 999, .inr 999, .inr 999, .inr 999] [] s6 (fun _ s9 => fb_V E fb_Mo_layOut 184 [.inr 5, .inl f, .inl (24 * f + i), .inl (π.2 17 k)] [] s9 Q)) ∧ (π.2 17 k = 13 → fb_V E fb_Mo_call 0 [.inr 5, .inl f, .inl (24 * f + i), .inr 999, .inr 999, .inr 999, .inr 999, .inr 999] [] s6 (fun _ s11 => fb_V E fb_Mo_layOut 184 [.inr 5, .inl f, .inl (24 * f + i), .inl (π.2 17 k)] [] s11 Q))) ∧ (¬ r5 = 0 → fb_V E fb_Mo_tests 0 [.inr 5, .inl f, .inl (24 * f + i), .inr 999, .inr 999, .inr 999, .inr 999, .inr 999, .inr 999] [] s6 (fun _ s13 => fb_V E fb_Mo_layOut 184 [.inr 5, .inl f, .inl (24 * f + i), .inl (π.2 17 k)] [] s13 Q)))) := by
    intro hn
    apply cm_branches _ q0
    · intro ho
      exact ⟨by omega, fun q => absurd q (by decide), fun _ => tes ho⟩
    · intro ho
      exact ⟨by omega, fun _ => ⟨fun h13 => oth (by omega), fun h13 => cal h13⟩, fun q => absurd rfl q⟩
  refine ⟨hK, by omega, fun a1 => ⟨fun a2 => by omega, fun a2 => ⟨fun a3 => ⟨fun a4 => br (by omega), fun a4 => by omega⟩, fun a3 => by omega⟩⟩, fun a1 => ⟨fun b1 => ⟨fun a2 => arr (Or.inl a2), fun a2 => ⟨fun a3 => ⟨fun a4 => br (by omega), fun a4 => goto a4⟩, fun a3 => arr (Or.inr a3)⟩⟩, fun b1 => ari (by omega)⟩⟩
end MON
