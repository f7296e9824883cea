/-! the reference's code: the others, CALL -/
section MOO
variable {E : fb_E} {σ τ : fb_S} {f : Int} {l : em_I} {Q : Int → fb_S → Prop}
def it_o1 (z : Int → Int) (p : Int → Int → Int) (op a b i : Int) : em_I := if op = 0 then [(0, 256 + (b / 2 ^ ((8 * i) : Int).toNat) % 256), (1, p a i)] else if op = 1 then [(0, p b i), (1, p a i)] else [(0, p a i), (21, 0)]
theorem mo_ot_it (h : mo_cx σ f τ l) (hl : l.length ≤ 10) (K a b op i : Int) (hK : 0 ≤ K ∧ K < 144) (e43 : σ.2 43 K = op) (e45 : σ.2 45 K = b) (hop : op = 0 ∨ op = 1 ∨ op = 15) (ha : iv_sc (iv_z σ f) a) (h0 : op = 0 → 0 ≤ b ∧ b ≤ 65535) (h1 : op = 1 → iv_sc (iv_z σ f) b) (hi : i = 0 ∨ i = 1)
    (k0 : iv_z σ f a ≤ i → Q 0 τ) (k : i < iv_z σ f a → ∀ ρ, mo_cx σ f ρ (l ++ it_o1 (iv_z σ f) (mo_pt σ f) op a b i) → fb_V E fb_Mo_others 114 [.inr 5, .inl f, .inl K, .inr 999, .inl (mo_pt σ f a 0), .inl (iv_z σ f a), .inl (i + 1), .inr 999] [] ρ Q) :
    fb_V E fb_Mo_others 114 [.inr 5, .inl f, .inl K, .inr 999, .inl (mo_pt σ f a 0), .inl (iv_z σ f a), .inl i, .inr 999] [] τ Q := by
  have sa := mo_scv h ha
  have hz : iv_z σ f a = 1 ∨ iv_z σ f a = 2 := ha
  have hg := h.2.2.1.2.1
  have e43' : ∀ {ρ m}, mo_cx σ f ρ m → ρ.2 43 K = op := fun c => by rw [c.arr (a := 43) (by decide)]; exact e43
  apply Mo_others_b114
  rw [e43' h, h.arr (a := 45) (by decide), e45]
  refine ⟨by omega, by omega, k0, fun q => ⟨hK, by omega, ?_⟩⟩
  have ei : mo_pt σ f a 0 + i = mo_pt σ f a i := by
    rcases hi with e | e
    · rw [e, Int.add_zero]
    · rw [e, mo_pt1 (by omega) h.2.2.1]
  have pa : 0 ≤ mo_pt σ f a i ∧ mo_pt σ f a i < 512 := by rcases hi with e | e <;> rw [e] <;> omega
  rw [ei]
  have sto : ∀ (ρ : fb_S) (x : Int), ¬ op = 15 → mo_cx σ f ρ (l ++ [(0, x)]) → [(0, x), (1, mo_pt σ f a i)] = it_o1 (iv_z σ f) (mo_pt σ f) op a b i → fb_V E fb_Mo_with 0 [.inr 5, .inl 1, .inl (mo_pt σ f a i)] [] ρ (fun _ s => fb_V E fb_Mo_others 114 [.inr 5, .inl f, .inl K, .inr 999, .inl (mo_pt σ f a 0), .inl (iv_z σ f a), .inl (i + 1), .inr 999] [] s Q) := by
    intro ρ x _ c e
    apply mo_with c 1 _ (by omega) pa (by simp <;> omega) (by omega)
    intro ρ2 c2
    exact k (by omega) ρ2 (mo_more (mo_asc c2) e)
  refine ⟨fun q1 => ⟨fun q2 => ?_, fun q2 => ?_⟩, fun q1 => ?_⟩
  · apply mo_ld h _ pa (by omega)
    intro ρ1 c1
    rw [e43' c1]
    refine ⟨by omega, fun q3 => by omega, fun q3 => ?_⟩
    apply mo_plain c1 21 (by omega) (by simp <;> omega)
    intro ρ2 c2
    refine k (by omega) ρ2 (mo_more (mo_asc c2) ?_)
    unfold it_o1
    rw [if_neg q1, if_neg q2]
    rfl
  · have hb := h1 q2
    have sb := mo_scv h hb
    have pb : 0 ≤ mo_pt σ f b i ∧ mo_pt σ f b i < 512 := by rcases hi with e | e <;> rw [e] <;> omega
    apply mo_part h hg hb hi
    apply mo_ld h _ pb (by omega)
    intro ρ1 c1
    rw [e43' c1]
    refine ⟨by omega, fun q3 => sto ρ1 _ q3 c1 ?_, fun q3 => by omega⟩
    unfold it_o1
    rw [if_neg q1, if_pos q2]
  · have hb := h0 q1
    refine ⟨by omega, by omega, ?_⟩
    generalize hx : b / 2 ^ ((8 * i) : Int).toNat = x
    apply mo_ld h _ (by omega) (by omega)
    intro ρ1 c1
    rw [e43' c1]
    refine ⟨by omega, fun q3 => sto ρ1 _ q3 c1 ?_, fun q3 => by omega⟩
    unfold it_o1
    rw [if_pos q1, hx]
/-- SET, MOVE, DOUBLE, RETURN, OUT -/
theorem mo_others (hS : mo_S σ) (hP : mo_P σ f) (K a b op : Int) (hK : 0 ≤ K ∧ K < 144) (e43 : σ.2 43 K = op) (e44 : σ.2 44 K = a) (e45 : σ.2 45 K = b) (hop : op = 0 ∨ op = 1 ∨ op = 7 ∨ op = 14 ∨ op = 15) (ha : iv_sc (iv_z σ f) a) (h0 : op = 0 → 0 ≤ b ∧ b ≤ 65535) (h1 : op = 1 → iv_sc (iv_z σ f) b)
    (k : ∀ ρ, mo_cx σ f ρ (if op = 0 then it_set (iv_z σ f) (mo_pt σ f) a b else if op = 1 then it_move (iv_z σ f) (mo_pt σ f) a b else if op = 7 then it_dbl (iv_z σ f) (mo_pt σ f) a else if op = 14 then it_ret (mo_pt σ f) a else it_out (iv_z σ f) (mo_pt σ f) a) → Q 0 ρ) :
    fb_V E fb_Mo_others 0 [.inr 5, .inl f, .inl K, .inr 999, .inr 999, .inr 999, .inr 999, .inr 999] [] σ Q := by
  have h := mo_cx_0 hS hP
  have h6 := h.f6
  have hg := hP.2.1
  have sa := mo_scv h ha
  have hz : iv_z σ f a = 1 ∨ iv_z σ f a = 2 := ha
  apply Mo_others_b0
  rw [e44]
  refine ⟨hK, ?_⟩
  apply mo_pl h hg sa.1
  rw [e43, sa.2.1]
  refine ⟨sa.2.2.2.2.2, by omega, fun q => ⟨fun q2 => ?_, fun q2 => ?_⟩, fun q => ?_⟩
  · have hl : ∀ m : em_I, m = it_o1 (iv_z σ f) (mo_pt σ f) op a b 0 → m.length = 2 := by
      intro m e
      rw [e]
      unfold it_o1
      repeat' split
      all_goals rfl
    have e1 : it_2 (iv_z σ f a) (it_o1 (iv_z σ f) (mo_pt σ f) op a b 0) (it_o1 (iv_z σ f) (mo_pt σ f) op a b 1) = if op = 0 then it_set (iv_z σ f) (mo_pt σ f) a b else if op = 1 then it_move (iv_z σ f) (mo_pt σ f) a b else if op = 7 then it_dbl (iv_z σ f) (mo_pt σ f) a else if op = 14 then it_ret (mo_pt σ f) a else it_out (iv_z σ f) (mo_pt σ f) a := by
      unfold it_o1
      rcases hop with e | e | e | e | e
      · rw [if_pos e, if_pos e, if_pos e]
        unfold it_set
        rw [show b / 2 ^ ((8 * 0 : Int)).toNat = b by show b / 1 = b; omega, show b / 2 ^ ((8 * 1 : Int)).toNat = b / 256 from rfl]
      · rw [if_neg (by omega), if_pos e, if_neg (by omega), if_pos e, if_neg (by omega), if_pos e]
        rfl
      · exact absurd e q
      · exact absurd e q2
      · rw [if_neg (by omega), if_neg (by omega), if_neg (by omega), if_neg (by omega), if_neg (by omega), if_neg (by omega), if_neg q, if_neg q2]
        rfl
    rw [← e1] at k
    apply mo_ot_it h (by simp) K a b op 0 hK e43 e45 (by omega) ha h0 h1 (by omega) (fun q => by omega)
    intro _ ρ1 c1
    rw [show (0 : Int) + 1 = 1 from rfl]
    apply mo_ot_it c1 (by rw [List.nil_append, hl _ rfl]; omega) K a b op 1 hK e43 e45 (by omega) ha h0 h1 (by omega) (fun q => k ρ1 (mo_more c1 (it_21 (show ¬ iv_z σ f a = 2 by omega) rfl)))
    intro q3 ρ2 c2
    have c2 := mo_asc c2
    rw [show (1 : Int) + 1 = 2 from rfl]
    apply Mo_others_b114
    refine ⟨by omega, by omega, fun _ => k ρ2 (mo_more c2 (it_22 (show iv_z σ f a = 2 by omega) rfl)), fun q => by omega⟩
  · rw [if_neg (by omega), if_neg (by omega), if_neg q, if_pos q2] at k
    apply mo_part h hg ha (by omega)
    apply mo_mv h _ _ (by omega) (by omega) (by simp)
    intro ρ1 c1
    apply mo_mv c1 _ _ (by omega) (by omega) (by simp)
    intro ρ2 c2
    apply mo_plain c2 20 (by omega) (by simp)
    intro ρ3 c3
    exact k ρ3 c3
  · rw [if_neg (by omega), if_neg (by omega), if_pos q] at k
    apply mo_with h 7 _ (by omega) (by omega) (by simp) (by omega)
    intro ρ1 c1
    refine ⟨by omega, fun q2 => ?_, fun q2 => ?_⟩
    · rw [it_dbl, it_2_1 q2] at k
      exact k ρ1 c1
    · rw [it_dbl, it_2_2 q2] at k
      rw [← mo_pt1 q2 hP]
      apply mo_with c1 8 _ (by omega) (by omega) (by simp) (by omega)
      intro ρ2 c2
      exact k ρ2 c2
/-- CALL: up to JSR -/
theorem mo_pm_it (h : mo_cx σ f τ l) (hl : l.length ≤ 10) (K g a i zg : Int) (hK : 0 ≤ K ∧ K < 144) (e45 : σ.2 45 K = a) (hgc : 0 ≤ g ∧ g < σ.1 41) (hzg : iv_z σ g 0 = 1 ∨ iv_z σ g 0 = 2) (ezg : zg = iv_z σ g 0) (ha : iv_sc (iv_z σ f) a) (hi : i = 0 ∨ i = 1) (hlt : i < zg)
    (k : ∀ ρ, mo_cx σ f ρ (l ++ [(0, mo_pt σ f a i), (1, mo_pt σ g 0 0 + i)]) → fb_V E fb_Mo_call 47 [.inr 5, .inl f, .inl K, .inl g, .inl zg, .inl (i + 1), .inr 999, .inr 999] [] ρ Q) :
    fb_V E fb_Mo_call 47 [.inr 5, .inl f, .inl K, .inl g, .inl zg, .inl i, .inr 999, .inr 999] [] τ Q := by
  have sa := mo_scv h ha
  have hg := h.2.2.1.2.1
  have hPg : mo_P σ g := ⟨h.2.2.1.1, hgc, h.2.2.1.2.2⟩
  have pg := mo_pt0 (show iv_z σ g 0 ≠ 0 by omega) hPg
  have ng := mo_pt_in hPg (show iv_z σ g 0 ≠ 0 by omega) (Int.le_refl 0)
  have pa : 0 ≤ mo_pt σ f a i ∧ mo_pt σ f a i < 512 := by rcases hi with e | e <;> rw [e] <;> omega
  have ei : mo_pt σ g 0 i = mo_pt σ g 0 0 + i := by
    rcases hi with e | e
    · rw [e, Int.add_zero]
    · rw [e, mo_pt1 (by omega) hPg]
  apply Mo_call_b47
  refine ⟨by omega, by omega, fun q => by omega, fun q => ⟨hK, ?_⟩⟩
  rw [h.arr (a := 45) (by decide), e45]
  apply mo_part h hg ha hi
  apply mo_part h hgc hzg hi
  rw [ei]
  exact mo_mv h _ _ pa (by omega) (by omega) k
theorem mo_call1 (hS : mo_S σ) (hP : mo_P σ f) (K g a : Int) (hK : 0 ≤ K ∧ K < 144) (e44 : σ.2 44 K = g) (e45 : σ.2 45 K = a) (hgc : 0 ≤ g ∧ g < σ.1 41) (ha : iv_sc (iv_z σ f) a) (hst : 0 ≤ σ.2 50 (24 * g) ∧ σ.2 50 (24 * g) < 65536)
    (k : ∀ ρ, mo_cx σ f ρ (it_par (mo_pt σ f) (iv_z σ g 0) (mo_pt σ g 0 0) a ++ [(19, σ.2 50 (24 * g))]) → (0 ≤ K ∧ K < 144) ∧ (fb_V E fb_Mo_place 0 [.inr 5, .inl f, .inl (ρ.2 46 K), .inr 999, .inr 999] [] (fb_sg (fb_sm ρ 53 K (ρ.1 181)) 181 0) (fun r7 s8 => fb_V E fb_Mo_call 139 [.inr 5, .inl f, .inl K, .inr 999, .inr 999, .inl r7, .inl 0, .inr 999] [] s8 Q))) :
    fb_V E fb_Mo_call 0 [.inr 5, .inl f, .inl K, .inr 999, .inr 999, .inr 999, .inr 999, .inr 999] [] σ Q := by
  have h := mo_cx_0 hS hP
  have h6 := h.f6
  have sa := mo_scv h ha
  have jsr : ∀ (ρ : fb_S) (m : em_I) (v4 v5 : Int), mo_cx σ f ρ m → m = it_par (mo_pt σ f) (iv_z σ g 0) (mo_pt σ g 0 0) a → (0 ≤ v4 ∧ v4 < 9) → (0 ≤ v5 ∧ v5 < 9) → v4 ≤ v5 → fb_V E fb_Mo_call 47 [.inr 5, .inl f, .inl K, .inl g, .inl v4, .inl v5, .inr 999, .inr 999] [] ρ Q := by
    intro ρ m v4 v5 c e b4 b5 le
    have hml : m.length ≤ 4 := by
      rw [e]
      unfold it_par
      repeat' split
      all_goals simp
    rw [← e] at k
    apply Mo_call_b47
    refine ⟨by omega, by omega, fun _ => ⟨by omega, ?_⟩, fun q => by omega⟩
    rw [c.arr (a := 50) (by decide)]
    exact mo_to c 19 _ (by omega) hst (by omega) k
  have hbg := hP.1.2.1 g hgc.1 (by omega)
  have two : (iv_z σ g 0 = 1 ∨ iv_z σ g 0 = 2) → fb_V E fb_Mo_call 47 [.inr 5, .inl f, .inl K, .inl g, .inl (iv_z σ g 0), .inl 0, .inr 999, .inr 999] [] σ Q := by
    intro hzg
    apply mo_pm_it h (by simp) K g a 0 _ hK e45 hgc hzg rfl ha (by omega) (by omega)
    intro ρ1 c1
    rw [show (0 : Int) + 1 = 1 from rfl]
    rcases hzg with z1 | z2
    · refine jsr ρ1 _ _ _ c1 ?_ (by omega) (by omega) (by omega)
      rw [it_par, if_pos z1, Int.add_zero]
      rfl
    · apply mo_pm_it c1 (by simp) K g a 1 _ hK e45 hgc (Or.inr z2) rfl ha (by omega) (by omega)
      intro ρ2 c2
      rw [show (1 : Int) + 1 = 2 from rfl]
      refine jsr ρ2 _ _ _ c2 ?_ (by omega) (by omega) (by omega)
      rw [it_par, if_neg (by omega), if_pos z2, Int.add_zero]
      rfl
  apply Mo_call_b0
  rw [e44]
  refine ⟨hK, by omega, by omega, fun q => ?_, fun q => ?_⟩
  · have z0 : iv_z σ g 0 = 0 := by unfold iv_z; rw [if_neg (by omega)]
    refine jsr σ [] _ _ h ?_ (by omega) (by omega) (by omega)
    rw [it_par, if_neg (by omega), if_neg (by omega)]
  · have zc := hP.1.2.2.1 g 0 hgc.1 (by omega) (by omega) (by omega)
    have zz : iv_z σ g 0 = σ.2 (7 + g.toNat) 0 := by unfold iv_z; rw [if_pos (by omega)]
    rw [Int.add_zero] at zc
    rw [zc.2, ← zz]
    refine ⟨by omega, by omega, fun q3 => ?_, fun q3 => two (by omega)⟩
    refine jsr σ [] _ _ h ?_ (by omega) (by omega) (by omega)
    rw [it_par, if_neg (by omega), if_neg (by omega)]
/-- CALL: behind JSR -/
theorem mo_call2 (hS : mo_S σ) (hP : mo_P σ f) (K b : Int) (hK : 0 ≤ K ∧ K < 144) (e46 : σ.2 46 K = b) (hb : iv_sc (iv_z σ f) b) (k : ∀ ρ, mo_cx σ f ρ (it_res (iv_z σ f) (mo_pt σ f) b) → Q 0 (fb_sm ρ 54 K (ρ.1 181))) :
    fb_V E fb_Mo_place 0 [.inr 5, .inl f, .inl b, .inr 999, .inr 999] [] σ (fun r7 s8 => fb_V E fb_Mo_call 139 [.inr 5, .inl f, .inl K, .inr 999, .inr 999, .inl r7, .inl 0, .inr 999] [] s8 Q) := by
  have h := mo_cx_0 hS hP
  have h6 := h.f6
  have hg := hP.2.1
  have hz : iv_z σ f b = 1 ∨ iv_z σ f b = 2 := hb
  have sb := mo_scv h hb
  apply mo_pl h hg sb.1
  apply Mo_call_b139
  rw [e46, sb.2.1]
  refine ⟨hK, sb.2.2.2.2.2, by omega, by omega, fun q => by omega, fun q => ?_⟩
  rw [Int.add_zero, Int.add_zero]
  apply mo_mv h _ _ (by omega) (by omega) (by simp)
  intro ρ1 c1
  rw [show (0 : Int) + 1 = 1 from rfl]
  apply Mo_call_b139
  rw [c1.arr (a := 46) (by decide), e46, (mo_scv c1 hb).2.1]
  refine ⟨hK, sb.2.2.2.2.2, by omega, by omega, fun q => k ρ1 (mo_more c1 (it_21 (show ¬ iv_z σ f b = 2 by omega) rfl)), fun q => ?_⟩
  rw [← mo_pt1 (by omega) hP]
  apply mo_mv c1 _ _ (by omega) (by omega) (by simp)
  intro ρ2 c2
  have c2 := mo_asc c2
  rw [show (1 : Int) + 1 = 2 from rfl]
  apply Mo_call_b139
  rw [c2.arr (a := 46) (by decide), e46, (mo_scv c2 hb).2.1]
  exact ⟨hK, sb.2.2.2.2.2, by omega, by omega, fun q => k ρ2 (mo_more c2 (it_22 (show iv_z σ f b = 2 by omega) rfl)), fun q => by omega⟩
end MOO
