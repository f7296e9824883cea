/-! the layout: where each instruction's code begins, what is held there -/
def pg (π σ : fb_S) : Prop := (∀ a, iv_Pcell a → σ.2 a = π.2 a) ∧ σ.1 41 = π.1 41 ∧ σ.1 42 = π.1 42 ∧ σ.1 160 = π.1 160 ∧ σ.1 161 = π.1 161
theorem pg_rf (π : fb_S) : pg π π := ⟨fun _ _ => rfl, rfl, rfl, rfl, rfl⟩
theorem pg.P {π σ : fb_S} (h : pg π σ) (hP : iv_P π) : iv_P σ := iv_P_same hP h.1 h.2.1 h.2.2.1 h.2.2.2.1 h.2.2.2.2
theorem pg.arr {π σ : fb_S} (h : pg π σ) {a : Nat} (ha : iv_Pcell a) : σ.2 a = π.2 a := h.1 a ha
theorem pg.z {π σ : fb_S} (h : pg π σ) {f : Int} (f0 : 0 ≤ f) (f6 : f < 6) : iv_z σ f = iv_z π f := funext (fun _ => iv_z_same h.1 f0 f6)
theorem pg.fr {π σ τ : fb_S} (h : pg π σ) {A G : List Nat} (ok : fr_ok A G) (fr : fr_a A G σ τ) : pg π τ := by
  obtain ⟨h1, h2, h3, h4, h5⟩ := h
  exact ⟨fun a ha => (fr_p2 ok fr ha).trans (h1 a ha), (fr.1 _ ok.2.1).trans h2, (fr.1 _ ok.2.2.1).trans h3, (fr.1 _ ok.2.2.2.1).trans h4, (fr.1 _ ok.2.2.2.2).trans h5⟩
theorem pg.tg {π σ : fb_S} (h : pg π σ) (k : Int) : iv_tg σ k = iv_tg π k := by
  unfold iv_tg
  rw [h.arr (a := 17) (Or.inl ⟨by omega, by omega⟩), h.arr (a := 18) (Or.inl ⟨by omega, by omega⟩), h.arr (a := 19) (Or.inl ⟨by omega, by omega⟩), h.arr (a := 20) (Or.inl ⟨by omega, by omega⟩)]
theorem pg.ps {π σ : fb_S} (h : pg π σ) {f : Int} (f6 : f < 6) : ∀ n : Nat, iv_ps σ f n = iv_ps π f n
  | 0 => rfl
  | n + 1 => by
    simp only [iv_ps]
    rw [h.ps f6 n, h.arr (a := 7 + f.toNat) (Or.inl ⟨by omega, by omega⟩)]
def it_er (l : em_I) : em_I := l.map (fun x => if x.1 ≤ 11 then x else (x.1, 0))
theorem it_er_app (l m : em_I) : it_er (l ++ m) = it_er l ++ it_er m := List.map_append
theorem em_er1 (h n p : Int) (hn : ¬ n ≤ 11) : (em_b h n 0).length = (em_b h n p).length ∧ em_h h n 0 = em_h h n p ∧ em_w h n 0 = em_w h n p := by
  refine ⟨?_, ?_, ?_⟩
  · unfold em_b
    rw [if_neg hn, if_neg hn]
    by_cases h1 : n = 18 ∨ n = 19
    · rw [if_pos h1, if_pos h1]; rfl
    · rw [if_neg h1, if_neg h1]
      by_cases h2 : n ≤ 22
      · rw [if_pos h2, if_pos h2]
      · rw [if_neg h2, if_neg h2]
        by_cases h3 : n ≤ 31
        · rw [if_pos h3, if_pos h3]; rfl
        · rw [if_neg h3, if_neg h3]
  · unfold em_h
    rw [if_neg hn, if_neg hn]
  · unfold em_w
    rw [if_neg hn, if_neg hn]
theorem em_er : ∀ (l : em_I) (h : Int), (em_B h (it_er l)).length = (em_B h l).length ∧ em_H h (it_er l) = em_H h l ∧ em_W h (it_er l) = em_W h l
  | [], _ => ⟨rfl, rfl, rfl⟩
  | x :: l, h => by
    obtain ⟨n, p⟩ := x
    by_cases hn : n ≤ 11
    · have e : it_er ((n, p) :: l) = (n, p) :: it_er l := by
        show (if n ≤ 11 then (n, p) else (n, 0)) :: it_er l = _
        rw [if_pos hn]
      have ih := em_er l (em_h h n p)
      rw [e]
      simp only [em_B, em_H, em_W, List.length_append]
      rw [ih.1, ih.2.1, ih.2.2]
      exact ⟨rfl, rfl, rfl⟩
    · have e : it_er ((n, p) :: l) = (n, 0) :: it_er l := by
        show (if n ≤ 11 then (n, p) else (n, 0)) :: it_er l = _
        rw [if_neg hn]
      have e1 := em_er1 h n p hn
      have ih := em_er l (em_h h n p)
      rw [e]
      simp only [em_B, em_H, em_W, List.length_append]
      rw [e1.1, e1.2.1, e1.2.2, ih.1, ih.2.1, ih.2.2]
      exact ⟨rfl, rfl, rfl⟩
theorem it_er_br (n pos ga pos' ga' lg : Int) : it_er (it_br n pos ga lg) = it_er (it_br n pos' ga' lg) := by
  unfold it_br
  by_cases h : lg = 0
  · rw [if_pos h, if_pos h]; rfl
  · rw [if_neg h, if_neg h]; rfl
theorem it_in_er (z : Int → Int) (p : Int → Int → Int) (zg pg op a b c ga lg pos ga' pos' : Int) : it_er (it_in z p zg pg op a b c ga lg pos) = it_er (it_in z p zg pg op a b c ga' lg pos') := by
  unfold it_in
  by_cases h10 : op = 10
  · subst h10; rfl
  by_cases h11 : op = 11
  · subst h11
    show it_er (it_te z p 11 a b ++ it_br 14 pos ga lg) = it_er (it_te z p 11 a b ++ it_br 14 pos' ga' lg)
    rw [it_er_app, it_er_app, it_er_br 14 pos ga pos' ga' lg]
  by_cases h12 : op = 12
  · subst h12
    show it_er (it_te z p 12 a b ++ it_br 16 pos ga lg) = it_er (it_te z p 12 a b ++ it_br 16 pos' ga' lg)
    rw [it_er_app, it_er_app, it_er_br 16 pos ga pos' ga' lg]
  by_cases h13 : op = 13
  · subst h13
    show it_er (it_par p zg pg b ++ [(19, ga)] ++ it_res z p c) = it_er (it_par p zg pg b ++ [(19, ga')] ++ it_res z p c)
    rw [it_er_app, it_er_app, it_er_app, it_er_app]
    rfl
  · rw [if_neg h10, if_neg h11, if_neg h12, if_neg h13]
    rw [if_neg h10, if_neg h11, if_neg h12, if_neg h13]
theorem it_2_len (x : Int) (l0 l1 : em_I) {n : Nat} (h : l0.length + l1.length ≤ n) : (it_2 x l0 l1).length ≤ n := by
  unfold it_2
  split
  · rw [List.length_append]; exact h
  · omega
theorem it_ite {c : Prop} [Decidable c] {l m : em_I} {n : Nat} (h1 : l.length ≤ n) (h2 : m.length ≤ n) : (if c then l else m).length ≤ n := by
  split
  · exact h1
  · exact h2
theorem it_in_len (z : Int → Int) (p : Int → Int → Int) (zg pg op a b c ga lg pos : Int) : (it_in z p zg pg op a b c ga lg pos).length ≤ 9 := by
  have br : ∀ n, (it_br n pos ga lg).length ≤ 5 := fun n => by unfold it_br; split <;> simp
  have te : ∀ o, (it_te z p o a b).length ≤ 4 := fun o => by unfold it_te it_zero it_below; repeat' split
                                                             all_goals simp
  have pm : (it_par p zg pg b).length ≤ 4 := by unfold it_par; repeat' split
                                                all_goals simp
  have rs : (it_res z p c).length ≤ 4 := it_2_len _ _ _ (by simp)
  have cb : ∀ n, (it_comb z p n a b c).length ≤ 6 := fun n => it_2_len _ _ _ (by simp)
  have ld : (it_load z p a b).length ≤ 4 := it_2_len _ _ _ (by simp)
  have b14 := br 14
  have b16 := br 16
  have t11 := te 11
  have t12 := te 12
  have c2 := cb 2
  have c3 := cb 3
  have cop := cb op
  unfold it_in
  refine it_ite (it_2_len _ _ _ (by simp)) (it_ite (it_2_len _ _ _ (by simp)) (it_ite ?_ (it_ite ?_ (it_ite (by omega) (it_ite (it_2_len _ _ _ (by simp)) (it_ite ?_ (it_ite ?_ (it_ite (by simp) (it_ite ?_ (it_ite ?_ (it_ite ?_ (it_ite ?_ (it_2_len _ _ _ (by simp))))))))))))))
  · rw [List.length_append, List.length_cons, List.length_nil]; omega
  · rw [List.length_append, List.length_cons, List.length_nil]; omega
  · rw [List.length_append]; exact Nat.le_trans (Nat.add_le_add_left ld _) (by simp [it_idx])
  · simp [it_idx, it_store]
  · rw [List.length_append]; omega
  · rw [List.length_append]; omega
  · rw [List.length_append, List.length_append, List.length_cons, List.length_nil]; omega
  · simp [it_ret]
theorem it_te_p (z : Int → Int) (p p' : Int → Int → Int) (h0 : ∀ v, p v 0 = p' v 0) (h1 : ∀ v, p v 1 = p' v 1) (op a b : Int) : it_te z p op a b = it_te z p' op a b := by
  simp only [it_te, it_zero, it_below, h0, h1]
theorem it_par_p (p p' : Int → Int → Int) (h0 : ∀ v, p v 0 = p' v 0) (h1 : ∀ v, p v 1 = p' v 1) (zg pg pg' : Int) (hg : zg = 1 ∨ zg = 2 → pg = pg') (a : Int) : it_par p zg pg a = it_par p' zg pg' a := by
  unfold it_par
  rw [h0, h1]
  by_cases e1 : zg = 1
  · rw [if_pos e1, if_pos e1, hg (Or.inl e1)]
  · rw [if_neg e1, if_neg e1]
    by_cases e2 : zg = 2
    · rw [if_pos e2, if_pos e2, hg (Or.inr e2)]
    · rw [if_neg e2, if_neg e2]
theorem it_in_p (z : Int → Int) (p p' : Int → Int → Int) (h0 : ∀ v, p v 0 = p' v 0) (h1 : ∀ v, p v 1 = p' v 1) (zg pg pg' : Int) (hg : zg = 1 ∨ zg = 2 → pg = pg') (op a b c ga lg pos : Int) : it_in z p zg pg op a b c ga lg pos = it_in z p' zg pg' op a b c ga lg pos := by
  unfold it_in
  rw [it_par_p p p' h0 h1 zg pg pg' hg b, it_te_p z p p' h0 h1, it_te_p z p p' h0 h1]
  simp only [it_set, it_move, it_comb, it_dbl, it_idx, it_load, it_store, it_res, it_ret, it_out, h0, h1]
noncomputable def ly_p (π : fb_S) (f v i : Int) : Int := if i < iv_z π f v then iv_bs π f + iv_ps π f v.toNat + i else 256
noncomputable def ly_it (π : fb_S) (k ga lg pos : Int) : em_I := it_in (iv_z π (π.2 16 k)) (ly_p π (π.2 16 k)) (iv_z π (π.2 18 k) 0) (ly_p π (π.2 18 k) 0 0) (π.2 17 k) (π.2 18 k) (π.2 19 k) (π.2 20 k) ga lg pos
/-- nothing is held at its start -/
def ly_rs (π : fb_S) (k : Int) : Prop := k = π.2 14 (π.2 16 k) ∨ iv_gp π (π.1 42) (π.2 16 k) (k - π.2 14 (π.2 16 k))
noncomputable def lyN (π : fb_S) (L : Int → Int) : Nat → Int × Int
  | 0 => (0, -1)
  | n + 1 => ((lyN π L n).1 + (em_B (@ite _ (ly_rs π n) (Classical.propDecidable _) (-1) (lyN π L n).2) (ly_it π n 0 (L n) 0)).length, em_H (@ite _ (ly_rs π n) (Classical.propDecidable _) (-1) (lyN π L n).2) (ly_it π n 0 (L n) 0))
noncomputable def ly_a (π : fb_S) (L : Int → Int) (k : Int) : Int := (lyN π L k.toNat).1
noncomputable def ly_o (π : fb_S) (L : Int → Int) (k : Int) : Int := (lyN π L k.toNat).2
noncomputable def ly_i (π : fb_S) (L : Int → Int) (k : Int) : Int := @ite _ (ly_rs π k) (Classical.propDecidable _) (-1) (ly_o π L k)
section LY
variable {π : fb_S} {L : Int → Int}
theorem ly_i_y {k : Int} (h : ly_rs π k) : ly_i π L k = -1 := if_pos h
theorem ly_i_n {k : Int} (h : ¬ ly_rs π k) : ly_i π L k = ly_o π L k := if_neg h
theorem ly_a_0 : ly_a π L 0 = 0 := rfl
theorem ly_o_0 : ly_o π L 0 = -1 := rfl
theorem ly_a_s {k : Int} (k0 : 0 ≤ k) (ga pos : Int) : ly_a π L (k + 1) = ly_a π L k + (em_B (ly_i π L k) (ly_it π k ga (L k) pos)).length := by
  have e : (em_B (ly_i π L k) (ly_it π k ga (L k) pos)).length = (em_B (ly_i π L k) (ly_it π k 0 (L k) 0)).length := by
    rw [← (em_er (ly_it π k ga (L k) pos) _).1, ← (em_er (ly_it π k 0 (L k) 0) _).1]
    unfold ly_it
    rw [it_in_er _ _ _ _ _ _ _ _ ga (L k) pos 0 0]
  rw [e]
  unfold ly_a ly_i ly_o
  obtain ⟨n, rfl⟩ := Int.eq_ofNat_of_zero_le k0
  rfl
theorem ly_o_s {k : Int} (k0 : 0 ≤ k) (ga pos : Int) : ly_o π L (k + 1) = em_H (ly_i π L k) (ly_it π k ga (L k) pos) := by
  have e : em_H (ly_i π L k) (ly_it π k ga (L k) pos) = em_H (ly_i π L k) (ly_it π k 0 (L k) 0) := by
    rw [← (em_er (ly_it π k ga (L k) pos) _).2.1, ← (em_er (ly_it π k 0 (L k) 0) _).2.1]
    unfold ly_it
    rw [it_in_er _ _ _ _ _ _ _ _ ga (L k) pos 0 0]
  rw [e]
  unfold ly_i ly_o
  obtain ⟨n, rfl⟩ := Int.eq_ofNat_of_zero_le k0
  rfl
theorem ly_a_step {k : Int} (k0 : 0 ≤ k) : ly_a π L k ≤ ly_a π L (k + 1) ∧ ly_a π L (k + 1) ≤ ly_a π L k + 27 := by
  have h1 := em_B_len (ly_it π k 0 (L k) 0) (ly_i π L k)
  have h2 := it_in_len (iv_z π (π.2 16 k)) (ly_p π (π.2 16 k)) (iv_z π (π.2 18 k) 0) (ly_p π (π.2 18 k) 0 0) (π.2 17 k) (π.2 18 k) (π.2 19 k) (π.2 20 k) 0 (L k) 0
  have h3 := ly_a_s (π := π) (L := L) k0 0 0
  have h4 : (ly_it π k 0 (L k) 0).length ≤ 9 := h2
  omega
theorem ly_a_in : ∀ n : Nat, 0 ≤ ly_a π L n ∧ ly_a π L n ≤ 27 * n
  | 0 => by rw [show ly_a π L ((0 : Nat) : Int) = 0 from rfl]; omega
  | n + 1 => by
    have h1 := ly_a_in n
    have h2 := ly_a_step (π := π) (L := L) (k := (n : Int)) (by omega)
    rw [show ((n + 1 : Nat) : Int) = (n : Int) + 1 by omega]
    omega
theorem ly_a_b {k : Int} (k0 : 0 ≤ k) : 0 ≤ ly_a π L k ∧ ly_a π L k ≤ 27 * k := by
  obtain ⟨n, rfl⟩ := Int.eq_ofNat_of_zero_le k0
  exact ly_a_in n
theorem ly_a_mono {j : Int} (j0 : 0 ≤ j) : ∀ n : Nat, ly_a π L j ≤ ly_a π L (j + n)
  | 0 => by rw [show j + ((0 : Nat) : Int) = j by omega]; exact Int.le_refl _
  | n + 1 => by
    have h1 := ly_a_mono j0 n
    have h2 := ly_a_step (π := π) (L := L) (k := j + n) (by omega)
    rw [show j + ((n + 1 : Nat) : Int) = j + n + 1 by omega]
    omega
theorem ly_a_le {j k : Int} (j0 : 0 ≤ j) (h : j ≤ k) : ly_a π L j ≤ ly_a π L k := by
  have := ly_a_mono (π := π) (L := L) j0 (k - j).toNat
  rw [show j + (((k - j).toNat : Nat) : Int) = k by omega] at this
  exact this
theorem lyN_congr {L' : Int → Int} : ∀ n : Nat, (∀ j : Int, 0 ≤ j → j < n → L j = L' j) → lyN π L n = lyN π L' n
  | 0, _ => rfl
  | n + 1, h => by
    have ih := lyN_congr (L' := L') n (fun j j0 j1 => h j j0 (by omega))
    simp only [lyN]
    rw [ih, h n (by omega) (by omega)]
theorem ly_congr {L' : Int → Int} {k : Int} (k0 : 0 ≤ k) (h : ∀ j : Int, 0 ≤ j → j < k → L j = L' j) : ly_a π L k = ly_a π L' k ∧ ly_o π L k = ly_o π L' k ∧ ly_i π L k = ly_i π L' k := by
  have := lyN_congr (π := π) (L' := L') k.toNat (fun j j0 j1 => h j j0 (by omega))
  unfold ly_i ly_a ly_o
  rw [this]
  exact ⟨rfl, rfl, rfl⟩
/-- where the branch of an instruction begins -/
noncomputable def ly_te (π : fb_S) (k : Int) : em_I := it_te (iv_z π (π.2 16 k)) (ly_p π (π.2 16 k)) (π.2 17 k) (π.2 18 k) (π.2 19 k)
noncomputable def ly_b (π : fb_S) (L : Int → Int) (k : Int) : Int := ly_a π L k + (em_B (ly_i π L k) (ly_te π k)).length
/-- the address that an instruction aims at -/
def ly_gi (π : fb_S) (k : Int) : Int := if π.2 17 k = 13 then π.2 14 (π.2 18 k) else π.2 14 (π.2 16 k) + iv_tg π k
/-- its code when all stands -/
noncomputable def ly_c (π : fb_S) (L : Int → Int) (k : Int) : em_I := ly_it π k (ly_a π L (ly_gi π k)) (L k) (ly_b π L k)
/-- the code stands in B, as far as m -/
def ly_bt (π : fb_S) (L : Int → Int) (m : Int) (B : Int → Int) (n : Int) : Prop := ∀ k, 0 ≤ k → k < n → ∀ (i : Nat) (b : Int), (em_B (ly_i π L k) (ly_c π L k))[i]? = some b → ly_a π L k + i < m → B (ly_a π L k + i) = b
end LY
