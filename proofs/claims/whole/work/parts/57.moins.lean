/-! the reference's code of each instruction -/
section MOI
variable {E : fb_E} {σ τ : fb_S} {f : Int} {l : em_I} {Q : Int → fb_S → Prop}
/-- what is known of a scalar of the function -/
theorem mo_scv {a : Int} (h : mo_cx σ f τ l) (ha : iv_sc (iv_z σ f) a) : iv_z σ f a ≠ 0 ∧ τ.2 42 (6 * f + a) = iv_z σ f a ∧ (0 ≤ a ∧ a < 6) ∧ (0 ≤ mo_pt σ f a 0 ∧ mo_pt σ f a 0 ≤ 256) ∧ (0 ≤ mo_pt σ f a 1 ∧ mo_pt σ f a 1 ≤ 256) ∧ (0 ≤ 6 * f + a ∧ 6 * f + a < 36) := by
  have hne : iv_z σ f a ≠ 0 := by unfold iv_sc at ha; omega
  have h6 := h.f6
  have hz := h.sz h6.1.1 h6.1.2 hne
  exact ⟨hne, hz.1, hz.2.1, mo_pt_in h.2.2.1 hne (by omega), mo_pt_in h.2.2.1 hne (by omega), by omega⟩
theorem mo_pt0 {v : Int} (hv : iv_z σ f v ≠ 0) (hP : mo_P σ f) : mo_pt σ f v 0 = σ.2 47 f + iv_ps σ f v.toNat ∧ mo_pt σ f v 0 ≤ 120 - iv_z σ f v ∧ 1 ≤ iv_z σ f v ∧ iv_z σ f v ≤ 8 := by
  have hr := iv_sc_in hv
  have hA := hP.1.1
  unfold iv_A at hA
  have h1 := iv_pl_in hP.1 hP.2.1.1 (show f < 6 by have := hP.2.1; omega) hr.1 hr.2
  have h2 := hP.2.2 f hP.2.1.1 hP.2.1.2
  have hz : iv_z σ f v = σ.2 (7 + f.toNat) v := by unfold iv_z; rw [if_pos hr]
  have hc := hP.1.2.2.1 f v hP.2.1.1 (by have := hP.2.1; omega) hr.1 hr.2
  have e : mo_pt σ f v 0 = σ.2 47 f + iv_ps σ f v.toNat := by
    unfold mo_pt
    rw [if_pos (by omega), Int.add_zero]
  exact ⟨e, by omega, by omega, by omega⟩
theorem mo_pt1 {v : Int} (h2 : iv_z σ f v = 2) (hP : mo_P σ f) : mo_pt σ f v 1 = mo_pt σ f v 0 + 1 := by
  have := (mo_pt0 (show iv_z σ f v ≠ 0 by omega) hP).1
  rw [this]
  unfold mo_pt
  rw [if_pos (by omega)]
theorem mo_ar_it (h : mo_cx σ f τ l) (hl : l.length ≤ 10) (K a b c op i : Int) (hK : 0 ≤ K ∧ K < 144) (e44 : σ.2 44 K = a) (e45 : σ.2 45 K = b) (e46 : σ.2 46 K = c) (hop : 2 ≤ op ∧ op ≤ 6) (ha : iv_sc (iv_z σ f) a) (hb : iv_sc (iv_z σ f) b) (hc : iv_sc (iv_z σ f) c) (hi : i = 0 ∨ i = 1)
    (k0 : iv_z σ f a ≤ i → Q 0 τ) (k : i < iv_z σ f a → ∀ ρ, mo_cx σ f ρ (l ++ [(0, mo_pt σ f b i), (op, mo_pt σ f c i), (1, mo_pt σ f a i)]) → fb_V E fb_Mo_arithmetic 53 [.inr 5, .inl f, .inl K, .inr 999, .inl op, .inl (i + 1), .inr 999, .inr 999, .inr 999] [] ρ Q) :
    fb_V E fb_Mo_arithmetic 53 [.inr 5, .inl f, .inl K, .inr 999, .inl op, .inl i, .inr 999, .inr 999, .inr 999] [] τ Q := by
  have sa := mo_scv h ha
  have sb := mo_scv h hb
  have sc := mo_scv h hc
  have pr : ∀ v, (0 ≤ mo_pt σ f v 0 ∧ mo_pt σ f v 0 ≤ 256) → (0 ≤ mo_pt σ f v 1 ∧ mo_pt σ f v 1 ≤ 256) → 0 ≤ mo_pt σ f v i ∧ mo_pt σ f v i < 512 := by
    intro v h0 h1
    rcases hi with e | e <;> rw [e] <;> omega
  have pa := pr a sa.2.2.2.1 sa.2.2.2.2.1
  have pb := pr b sb.2.2.2.1 sb.2.2.2.2.1
  have pc := pr c sc.2.2.2.1 sc.2.2.2.2.1
  have hz : iv_z σ f a = 1 ∨ iv_z σ f a = 2 := ha
  have hg := h.2.2.1.2.1
  apply Mo_arithmetic_b53
  rw [h.arr (a := 44) (by decide), h.arr (a := 45) (by decide), e44, e45, sa.2.1]
  refine ⟨hK, sa.2.2.2.2.2, by omega, by omega, k0, fun q => ?_⟩
  apply mo_part h hg hb hi
  rw [h.arr (a := 46) (by decide), e46]
  apply mo_part h hg hc hi
  rw [h.arr (a := 44) (by decide), e44]
  apply mo_part h hg ha hi
  apply mo_ld h _ pb (by omega)
  intro ρ1 c1
  apply mo_with c1 op _ (by omega) pc (by simp <;> omega) (by omega)
  intro ρ2 c2
  apply mo_with c2 1 _ (by omega) pa (by simp <;> omega) (by omega)
  intro ρ3 c3
  exact k (by omega) ρ3 (mo_asc (mo_asc c3))
theorem mo_ar53 (h : mo_cx σ f τ l) (hl : l.length ≤ 3) (K a b c op : Int) (hK : 0 ≤ K ∧ K < 144) (e44 : σ.2 44 K = a) (e45 : σ.2 45 K = b) (e46 : σ.2 46 K = c) (hop : 2 ≤ op ∧ op ≤ 6) (ha : iv_sc (iv_z σ f) a) (hb : iv_sc (iv_z σ f) b) (hc : iv_sc (iv_z σ f) c)
    (k : ∀ ρ, mo_cx σ f ρ (l ++ it_comb (iv_z σ f) (mo_pt σ f) op a b c) → Q 0 ρ) : fb_V E fb_Mo_arithmetic 53 [.inr 5, .inl f, .inl K, .inr 999, .inl op, .inl 0, .inr 999, .inr 999, .inr 999] [] τ Q := by
  have hz : iv_z σ f a = 1 ∨ iv_z σ f a = 2 := ha
  apply mo_ar_it h (by omega) K a b c op 0 hK e44 e45 e46 hop ha hb hc (by omega) (fun q => by omega)
  intro _ ρ1 c1
  rw [show (0 : Int) + 1 = 1 from rfl]
  apply mo_ar_it c1 (by simp <;> omega) K a b c op 1 hK e44 e45 e46 hop ha hb hc (by omega) (fun q => k ρ1 (mo_more c1 (it_21 (show ¬ iv_z σ f a = 2 by omega) rfl)))
  intro q ρ2 c2
  have c2 := mo_asc c2
  have sa := mo_scv c2 ha
  rw [show (1 : Int) + 1 = 2 from rfl]
  apply Mo_arithmetic_b53
  rw [c2.arr (a := 44) (by decide), e44, sa.2.1]
  exact ⟨hK, sa.2.2.2.2.2, by omega, by omega, fun _ => k ρ2 (mo_more c2 (it_22 (show iv_z σ f a = 2 by omega) rfl)), fun q => by omega⟩
theorem mo_arith (hS : mo_S σ) (hP : mo_P σ f) (K a b c op : Int) (hK : 0 ≤ K ∧ K < 144) (e43 : σ.2 43 K = op) (e44 : σ.2 44 K = a) (e45 : σ.2 45 K = b) (e46 : σ.2 46 K = c) (hop : 2 ≤ op ∧ op ≤ 6) (ha : iv_sc (iv_z σ f) a) (hb : iv_sc (iv_z σ f) b) (hc : iv_sc (iv_z σ f) c)
    (k : ∀ ρ, mo_cx σ f ρ (if op = 2 then [(12, 0)] ++ it_comb (iv_z σ f) (mo_pt σ f) 2 a b c else if op = 3 then [(13, 0)] ++ it_comb (iv_z σ f) (mo_pt σ f) 3 a b c else it_comb (iv_z σ f) (mo_pt σ f) op a b c) → Q 0 ρ) :
    fb_V E fb_Mo_arithmetic 0 [.inr 5, .inl f, .inl K, .inr 999, .inr 999, .inr 999, .inr 999, .inr 999, .inr 999] [] σ Q := by
  have h := mo_cx_0 hS hP
  have d0 : ¬ op = 2 → ¬ op = 3 → fb_V E fb_Mo_arithmetic 53 [.inr 5, .inl f, .inl K, .inr 999, .inl op, .inl 0, .inr 999, .inr 999, .inr 999] [] σ Q := by
    intro q q2
    rw [if_neg q, if_neg q2] at k
    exact mo_ar53 h (by simp) K a b c op hK e44 e45 e46 hop ha hb hc k
  have d3 : op = 3 → fb_V E fb_Mo_plain 0 [.inr 5, .inl 13] [] σ (fun _ s => fb_V E fb_Mo_arithmetic 53 [.inr 5, .inl f, .inl K, .inr 999, .inl 3, .inl 0, .inr 999, .inr 999, .inr 999] [] s Q) := by
    intro q
    rw [if_neg (by omega), if_pos q] at k
    apply mo_plain h 13 (by omega) (by simp)
    intro ρ c1
    exact mo_ar53 c1 (by simp) K a b c 3 hK e44 e45 e46 (by omega) ha hb hc k
  apply Mo_arithmetic_b0
  rw [e43]
  refine ⟨hK, by omega, fun q => ⟨fun q2 => ⟨fun _ => ⟨fun _ => d0 q q2, fun q3 => absurd q3 q2⟩, fun q3 => absurd q3 q⟩, fun q2 => ⟨fun _ => ⟨fun q3 => absurd q2 q3, fun _ => d3 q2⟩, fun q3 => absurd q3 q⟩⟩, fun q => ⟨fun q2 => absurd q q2, fun _ => ?_⟩⟩
  rw [if_pos q] at k
  apply mo_plain h 12 (by omega) (by simp)
  intro ρ c1
  exact ⟨fun _ => mo_ar53 c1 (by simp) K a b c 2 hK e44 e45 e46 (by omega) ha hb hc k, fun q3 => by omega⟩
/-- tests -/
def mo_pos (σ : fb_S) (f op a b : Int) : Int := σ.1 173 + (em_B (σ.1 175) (it_te (iv_z σ f) (mo_pt σ f) op a b)).length
theorem mo_tests (hS : mo_S σ) (hP : mo_P σ f) (i a b op : Int) (hi : 0 ≤ i ∧ i < σ.2 15 f) (e43 : σ.2 43 (24 * f + i) = op) (e44 : σ.2 44 (24 * f + i) = a) (e45 : σ.2 45 (24 * f + i) = b) (hop : op = 11 ∨ op = 12) (ha : iv_sc (iv_z σ f) a) (hb : op = 12 → iv_sc (iv_z σ f) b)
    (htg : 0 ≤ iv_tg σ (σ.2 14 f + i) ∧ iv_tg σ (σ.2 14 f + i) < σ.2 15 f) (hst : ∀ j, 0 ≤ j → j < 144 → 0 ≤ σ.2 50 j ∧ σ.2 50 j < 65536) (hlg : σ.2 52 (24 * f + i) = 0 ∨ σ.2 52 (24 * f + i) = 1)
    (k : ∀ ρ, mo_cx σ f ρ (it_te (iv_z σ f) (mo_pt σ f) op a b ++ it_br (if op = 11 then 14 else 16) (mo_pos σ f op a b) (σ.2 50 (24 * f + iv_tg σ (σ.2 14 f + i))) (σ.2 52 (24 * f + i))) → Q 0 ρ) :
    fb_V E fb_Mo_tests 0 [.inr 5, .inl f, .inl (24 * f + i), .inr 999, .inr 999, .inr 999, .inr 999, .inr 999, .inr 999] [] σ Q := by
  have h := mo_cx_0 hS hP
  have h6 := h.f6
  have hbb := hP.1.2.1 f h6.1.1 h6.1.2
  have hK : 0 ≤ 24 * f + i ∧ 24 * f + i < 144 := by omega
  have sa := mo_scv h ha
  have hz : iv_z σ f a = 1 ∨ iv_z σ f a = 2 := ha
  have hg := hP.2.1
  have done : ∀ (ρ : fb_S) (n : Int), n = (if op = 11 then 14 else 16) → mo_cx σ f ρ (it_te (iv_z σ f) (mo_pt σ f) op a b) → fb_V E fb_Mo_branch 0 [.inr 5, .inl (24 * f + i), .inl n, .inr 999, .inr 999] [] ρ (fun _ s => Q 0 s) := by
    intro ρ n hn c
    have y : ρ.1 173 = mo_pos σ f op a b := c.1.2.1
    refine mo_br c ?_ n i (by rw [hn]; split <;> omega) hi htg hst hlg (fun ρ2 c2 => k ρ2 ?_)
    · unfold it_te it_zero it_below
      repeat' split
      all_goals simp
    · rw [y, hn] at c2; exact c2
  clear k
  apply Mo_tests_b0
  rw [e44]
  refine ⟨hK, ?_⟩
  apply mo_part h hg ha (by omega)
  rw [e43, e45, sa.2.1]
  refine ⟨sa.2.2.2.2.2, by omega, fun q => ⟨by omega, fun q2 => ?_, fun q2 => ?_⟩, fun q => ⟨by omega, fun q2 => ?_, fun q2 => ?_⟩⟩
  · have hb := hb (by omega)
    have sb := mo_scv h hb
    have hzb : iv_z σ f b = 1 ∨ iv_z σ f b = 2 := hb
    apply mo_ld h _ (by omega) (by simp)
    intro ρ1 c1
    apply mo_part c1 hg hb (by omega)
    apply mo_with c1 10 _ (by omega) (by omega) (by simp) (by omega)
    intro ρ2 c2
    rw [(mo_scv c2 hb).2.1]
    refine ⟨sb.2.2.2.2.2, by omega, fun q3 => ?_, fun q3 => ?_⟩
    · refine done ρ2 16 (by rw [if_neg q2]) ?_
      rw [it_te, if_neg q2, it_below, if_neg (by omega)]
      exact c2
    · apply mo_part c2 hg ha (by omega)
      apply mo_ld c2 _ (by omega) (by simp)
      intro ρ3 c3
      apply mo_part c3 hg hb (by omega)
      apply mo_with c3 3 _ (by omega) (by omega) (by simp) (by omega)
      intro ρ4 c4
      refine done ρ4 16 (by rw [if_neg q2]) ?_
      rw [it_te, if_neg q2, it_below, if_pos (by omega)]
      exact c4
  · apply mo_w0 h _ (by omega) (by simp)
    intro ρ1 c1
    apply mo_part c1 hg ha (by omega)
    refine done ρ1 14 (by rw [if_pos q2]) ?_
    rw [it_te, if_pos q2, it_zero, if_neg q]
    exact c1
  · have hb := hb (by omega)
    have sb := mo_scv h hb
    have hzb : iv_z σ f b = 1 ∨ iv_z σ f b = 2 := hb
    apply mo_ld h _ (by omega) (by simp)
    intro ρ1 c1
    apply mo_part c1 hg hb (by omega)
    apply mo_with c1 10 _ (by omega) (by omega) (by simp) (by omega)
    intro ρ2 c2
    apply mo_part c2 hg ha (by omega)
    apply mo_ld c2 _ (by omega) (by simp)
    intro ρ3 c3
    apply mo_part c3 hg hb (by omega)
    apply mo_with c3 3 _ (by omega) (by omega) (by simp) (by omega)
    intro ρ4 c4
    refine done ρ4 16 (by rw [if_neg q2]) ?_
    rw [it_te, if_neg q2, it_below, if_pos (by omega)]
    exact c4
  · apply mo_ld h _ (by omega) (by simp)
    intro ρ1 c1
    apply mo_part c1 hg ha (by omega)
    apply mo_with c1 5 _ (by omega) (by omega) (by simp) (by omega)
    intro ρ2 c2
    refine done ρ2 14 (by rw [if_pos q2]) ?_
    rw [it_te, if_pos q2, it_zero, if_pos q]
    exact c2
/-- LOAD, STORE -/
theorem mo_arrays (hS : mo_S σ) (hP : mo_P σ f) (K a b c op : Int) (hK : 0 ≤ K ∧ K < 144) (e43 : σ.2 43 K = op) (e44 : σ.2 44 K = a) (e45 : σ.2 45 K = b) (e46 : σ.2 46 K = c) (hop : op = 8 ∨ op = 9) (h8 : op = 8 → iv_sc (iv_z σ f) a ∧ 3 ≤ iv_z σ f b ∧ iv_z σ f c = 1) (h9 : op = 9 → 3 ≤ iv_z σ f a ∧ iv_z σ f b = 1 ∧ iv_sc (iv_z σ f) c)
    (k : ∀ ρ, mo_cx σ f ρ (if op = 8 then it_idx (iv_z σ f) (mo_pt σ f) b c ++ it_load (iv_z σ f) (mo_pt σ f) a b else it_idx (iv_z σ f) (mo_pt σ f) a b ++ it_store (mo_pt σ f) a c) → Q 0 ρ) :
    fb_V E fb_Mo_arrays 0 [.inr 5, .inl f, .inl K, .inr 999, .inr 999, .inr 999, .inr 999, .inr 999] [] σ Q := by
  have h := mo_cx_0 hS hP
  have h6 := h.f6
  have hg := hP.2.1
  apply Mo_arrays_b0
  rw [e43, e44, e45, e46]
  refine ⟨hK, by omega, fun q => ?_, fun q => ?_⟩
  · obtain ⟨ha, hb, hc⟩ := h9 (by omega)
    have hsc : iv_z σ f c = 1 ∨ iv_z σ f c = 2 := hc
    have pa := mo_pt0 (show iv_z σ f a ≠ 0 by omega) hP
    have pb := mo_pt0 (show iv_z σ f b ≠ 0 by omega) hP
    have pc := mo_pt0 (show iv_z σ f c ≠ 0 by omega) hP
    have na := mo_pt_in hP (show iv_z σ f a ≠ 0 by omega) (Int.le_refl 0)
    have nb := mo_pt_in hP (show iv_z σ f b ≠ 0 by omega) (Int.le_refl 0)
    have nc := mo_pt_in hP (show iv_z σ f c ≠ 0 by omega) (Int.le_refl 0)
    have za := h.sz h6.1.1 h6.1.2 (show iv_z σ f a ≠ 0 by omega)
    rw [if_neg q] at k
    apply mo_pl h hg (by omega)
    apply mo_pl h hg (by omega)
    rw [za.1]
    refine ⟨by omega, ?_⟩
    apply mo_guard h _ _ (by omega) (by omega) (by simp)
    intro ρ1 c1
    rw [c1.arr (a := 46) (by decide), e46]
    apply mo_pl c1 hg (by omega)
    apply mo_ld c1 _ (by omega) (by simp)
    intro ρ2 c2
    apply mo_ind c2 1 _ (by omega) (by omega) (by simp)
    intro ρ3 c3
    exact k ρ3 c3
  · obtain ⟨ha, hb, hc⟩ := h8 q
    have hsa : iv_z σ f a = 1 ∨ iv_z σ f a = 2 := ha
    have pa := mo_pt0 (show iv_z σ f a ≠ 0 by omega) hP
    have pb := mo_pt0 (show iv_z σ f b ≠ 0 by omega) hP
    have pc := mo_pt0 (show iv_z σ f c ≠ 0 by omega) hP
    have na := mo_pt_in hP (show iv_z σ f a ≠ 0 by omega) (Int.le_refl 0)
    have nb := mo_pt_in hP (show iv_z σ f b ≠ 0 by omega) (Int.le_refl 0)
    have nc := mo_pt_in hP (show iv_z σ f c ≠ 0 by omega) (Int.le_refl 0)
    have zb := h.sz h6.1.1 h6.1.2 (show iv_z σ f b ≠ 0 by omega)
    rw [if_pos q] at k
    apply mo_pl h hg (by omega)
    apply mo_pl h hg (by omega)
    rw [zb.1]
    refine ⟨by omega, ?_⟩
    apply mo_guard h _ _ (by omega) (by omega) (by simp)
    intro ρ1 c1
    rw [c1.arr (a := 44) (by decide), e44]
    apply mo_pl c1 hg (by omega)
    apply mo_ind c1 0 _ (by omega) (by omega) (by simp)
    intro ρ2 c2
    apply mo_with c2 1 _ (by omega) (by omega) (by simp) (by omega)
    intro ρ3 c3
    rw [c3.arr (a := 44) (by decide), e44, (mo_scv c3 ha).2.1]
    refine ⟨(mo_scv c3 ha).2.2.2.2.2, by omega, fun q2 => ?_, fun q2 => ?_⟩
    · rw [it_load, it_2_1 q2] at k
      exact k ρ3 c3
    · rw [it_load, it_2_2 q2] at k
      rw [← mo_pt1 q2 hP]
      apply mo_mv c3 _ _ (by omega) (by have := (mo_scv c3 ha).2.2.2.2.1; omega) (by simp)
      intro ρ4 c4
      exact k ρ4 c4
end MOI
