/-! runs, on both sides -/
noncomputable def am_r (π : fb_S) (L : Int → Int) : Nat → fb_S → fb_S
  | 0, β => β
  | n + 1, β => if β.1 183 = 0 then am_r π L n (am_st π L β) else β
noncomputable def am_c (π : fb_S) (L : Int → Int) : Nat → fb_S → Int
  | 0, _ => 0
  | n + 1, β => if β.1 183 = 0 then 1 + am_c π L n (am_st π L β) else 0
/-- a machine that may go on: at most N bytes put out -/
def am_ok (π α : fb_S) (N : Int) : Prop := (α.1 183 = 0 → am_W π α) ∧ (α.1 183 = 0 ∨ α.1 183 = 1 ∨ α.1 183 = 2) ∧ (0 ≤ α.1 186 ∧ α.1 186 ≤ N)
section RU
variable {E : fb_E} {π σ τ α β : fb_S} {L : Int → Int} {N : Int} {Q : Int → fb_S → Prop}
theorem am_ok_st (hP : iv_P π) (hg : iv_good π) (O : am_ok π α N) (h0 : α.1 183 = 0) : am_ok π (am_st π L α) (N + 2) := by
  obtain ⟨o1, o2, o3⟩ := O
  obtain ⟨z1, z2⟩ := am_Z_st (L := L) hP hg (o1 h0)
  refine ⟨fun h => ?_, ?_, by omega⟩
  · rcases z2 with z | z | z
    · exact z.2
    · omega
    · omega
  · rcases z2 with z | z | z
    · have := z.1
      omega
    · omega
    · omega
theorem am_ok_r (hP : iv_P π) (hg : iv_good π) : ∀ (n : Nat) (α : fb_S) (N : Int), am_ok π α N → am_ok π (am_r π L n α) (N + 2 * n)
  | 0, α, N, O => by
    show am_ok π α (N + 2 * ((0 : Nat) : Int))
    rw [show N + 2 * ((0 : Nat) : Int) = N by omega]
    exact O
  | n + 1, α, N, O => by
    unfold am_r
    by_cases g : α.1 183 = 0
    · rw [if_pos g]
      have := am_ok_r hP hg n _ _ (am_ok_st (L := L) hP hg O g)
      rw [show N + 2 + 2 * (n : Int) = N + 2 * ((n + 1 : Nat) : Int) by omega] at this
      exact this
    · rw [if_neg g]
      exact ⟨O.1, O.2.1, by have := O.2.2; omega⟩
theorem am_r_fr : ∀ (n : Nat) (α : fb_S), fr_a am_A am_G α (am_r π L n α)
  | 0, α => fr_rf _ _ _
  | n + 1, α => by
    unfold am_r
    exact fr_ite (fr_tr am_st_fr (am_r_fr n _)) (fr_rf _ _ _)
theorem ra_r : ∀ (n : Nat) {α β : fb_S}, ra α β → ra (am_r π L n α) (am_r π L n β) ∧ am_c π L n β = am_c π L n α
  | 0, _, _, h => ⟨h, rfl⟩
  | n + 1, α, β, h => by
    have e : β.1 183 = α.1 183 := h.1 183 (by decide)
    unfold am_r am_c
    rw [e]
    by_cases g : α.1 183 = 0
    · rw [if_pos g, if_pos g, if_pos g, if_pos g]
      have ih := ra_r n (ra_st (π := π) (L := L) h)
      exact ⟨ih.1, by rw [ih.2]⟩
    · rw [if_neg g, if_neg g, if_neg g, if_neg g]
      exact ⟨h, rfl⟩
theorem po_run (C : pk π L σ) : ∀ (n : Nat) (v1 v2 : Int) (β τ : fb_S) (N : Int), v1 = v2 + n → (0 ≤ v2 ∧ v1 ≤ 1000) → fr_a po_A po_G σ τ → Rc π L β τ → am_ok π β N → N + 2 * n < 2147480000 → (∀ ρ, fr_a po_A po_G σ ρ → Rc π L (am_r π L n β) ρ → Q (v2 + am_c π L n β) ρ) → fb_V E fb_Po_perform 2 [.inr 4, .inl v1, .inl v2] [] τ Q
  | 0, v1, v2, β, τ, N, hv, hr, fr, R, O, hN, h => by
    apply Po_perform_b2
    refine ⟨by omega, by omega, fun _ => ?_, fun g => by omega⟩
    have := h τ fr R
    rw [show v2 + am_c π L 0 β = v2 from Int.add_zero v2] at this
    exact this
  | n + 1, v1, v2, β, τ, N, hv, hr, fr, R, O, hN, h => by
    have e133 := R.1
    have o2 := O.2.1
    apply Po_perform_b2
    refine ⟨by omega, by omega, fun g => by omega, fun _ => ⟨by omega, fun g => ?_, fun g => ?_⟩⟩
    · have := h τ fr (by unfold am_r; rw [if_neg (by omega)]; exact R)
      unfold am_c at this
      rw [if_neg (by omega), Int.add_zero] at this
      exact this
    · have g0 : β.1 183 = 0 := by omega
      have ok := am_ok_st (L := L) C.1 C.2.1 O g0
      apply po_one (pk_fr C fr (by simp) (by simp)) (O.1 g0) g0 R (by have := O.2.2; omega)
      intro ρ f2 R2
      refine po_run C n v1 (v2 + 1) (am_st π L β) ρ (N + 2) (by omega) (by omega) (fr_tr fr f2) R2 ok (by omega) (fun ρ2 f3 R3 => ?_)
      have := h ρ2 f3 (by unfold am_r; rw [if_pos g0]; exact R3)
      unfold am_c at this
      rw [if_pos g0] at this
      rw [show v2 + 1 + am_c π L n (am_st π L β) = v2 + (1 + am_c π L n (am_st π L β)) by omega]
      exact this
theorem mo_run (X : mo_X π L σ) : ∀ (n : Nat) (v1 v2 : Int) (τ : fb_S) (N : Int), v1 = v2 + n → (0 ≤ v2 ∧ v1 ≤ 1000) → fr_a am_A am_G σ τ → am_ok π τ N → N + 2 * n < 2147480000 → Q (v2 + am_c π L n τ) (am_r π L n τ) → fb_V E fb_Mo_run 22 [.inr 5, .inl v1, .inl v2] [] τ Q
  | 0, v1, v2, τ, N, hv, hr, fr, O, hN, h => by
    apply Mo_run_b22
    refine ⟨by omega, by omega, fun _ => ?_, fun g => by omega⟩
    rw [show v2 + am_c π L 0 τ = v2 from Int.add_zero v2] at h
    exact h
  | n + 1, v1, v2, τ, N, hv, hr, fr, O, hN, h => by
    have o2 := O.2.1
    unfold am_r am_c at h
    apply Mo_run_b22
    refine ⟨by omega, by omega, fun g => by omega, fun _ => ⟨by omega, fun g => ?_, fun g => ?_⟩⟩
    · rw [if_neg g, if_neg g, Int.add_zero] at h
      exact h
    · rw [if_pos g, if_pos g] at h
      have W := O.1 g
      apply mo_step (mo_X_fr X fr) W (by have := O.2.2; omega) (fun e => by have := (am_room X.1 X.2.1 W e).1; omega)
      refine mo_run X n v1 (v2 + 1) (am_st π L τ) (N + 2) (by omega) (by omega) (fr_tr fr am_st_fr) (am_ok_st X.1 X.2.1 O g) (by omega) ?_
      rw [show v2 + 1 + am_c π L n (am_st π L τ) = v2 + (1 + am_c π L n (am_st π L τ)) by omega]
      exact h
theorem Rc_ra (h : ra α β) (R : Rc π L α σ) : Rc π L β σ := by
  obtain ⟨r1, r2, r3, r4, r5⟩ := R
  have e183 : β.1 183 = α.1 183 := h.1 183 (by decide)
  have e57 : β.2 57 = α.2 57 := h.2 57 (by decide)
  have eK : am_K β = am_K α := by
    unfold am_K
    rw [h.s, h.n]
  refine ⟨r1.trans e183.symm, r2.trans h.c.symm, r3.trans h.o.symm, ?_, fun g => ?_⟩
  · rw [h.o, e57]; exact r4
  · obtain ⟨s1, s2, s3, s4, s5, s6⟩ := r5 (e183.symm.trans g)
    unfold Rl
    rw [h.n, eK, h.d, h.s]
    exact ⟨s1, s2, s3, s4, s5, s6⟩
theorem Rc_fr (fr : fr_a am_A am_G σ τ) (R : Rc π L β σ) : Rc π L β τ := by
  unfold Rc Rl at *
  rw [fr.1 132 (by decide), fr.1 133 (by decide), fr.1 134 (by decide), fr.1 135 (by decide), fr.1 136 (by decide), fr.1 137 (by decide), fr.1 138 (by decide), fr.1 139 (by decide), fr.1 140 (by decide), fr.2 37 (by simp), fr.2 38 (by simp), fr.2 39 (by simp)]
  exact R
theorem po_ok : fr_ok po_A po_G := by unfold fr_ok; simp
theorem mo_X_po (X : mo_X π L σ) (fr : fr_a po_A po_G σ τ) : mo_X π L τ := by
  obtain ⟨x1, x2, x3, x4, x5, x6, x7⟩ := X
  refine ⟨x1, x2, x3.fr po_ok fr, ?_, ?_, ?_, x7⟩
  · rw [fr.2 47 (by simp)]; exact x4
  · rw [fr.2 53 (by simp), fr.2 54 (by simp)]; exact x5
  · rw [fr.2 52 (by simp)]; exact x6
theorem ra_po (fr : fr_a po_A po_G σ τ) : ra σ τ := by
  refine ⟨fun k hk => fr.1 k (fun h => ?_), fun a ha => fr.2 a (fun h => ?_)⟩
  · simp at hk h
    omega
  · simp at ha h
    omega
theorem am_ok_ra (h : ra α β) (O : am_ok π α N) : am_ok π β N := by
  have e183 : β.1 183 = α.1 183 := h.1 183 (by decide)
  unfold am_ok
  rw [e183, h.o]
  exact ⟨fun g => ra_W h (O.1 g), O.2⟩
/-- a run stands: class and reference alike -/
def rn (π : fb_S) (L : Int → Int) (N : Int) (σ : fb_S) : Prop := pk π L σ ∧ mo_X π L σ ∧ Rc π L σ σ ∧ am_ok π σ N
theorem rn_run {R : Int → Int → fb_S → Prop} (X : rn π L N σ) (hN : N + 2000 < 2147480000) {v : Int} (hv : 0 ≤ v ∧ v ≤ 1000) (h182 : σ.1 182 = 1) (h : ∀ r τ, rn π L (N + 2000) τ → fr_a (po_A ++ am_A) (po_G ++ am_G) σ τ → R r r τ) : fb_V E fb_Po_perform 2 [.inr 4, .inl v, .inl 0] [] σ (fun r s => fb_V E fb_Mo_run 0 [.inr 5, .inl v, .inr 999] [] s (fun r2 s2 => R r r2 s2)) := by
  obtain ⟨C, X, Rr, O⟩ := X
  apply po_run C v.toNat v 0 σ σ N (by omega) (by omega) (fr_rf _ _ _) Rr O (by omega)
  intro τ fr R1
  have q := ra_po fr
  have O2 := am_ok_ra q O
  have X2 := mo_X_po X fr
  have e182 : τ.1 182 = 1 := (fr.1 182 (by decide)).trans h182
  apply Mo_run_b0
  refine ⟨by omega, fun g => by omega, fun _ => ⟨by omega, fun g => by omega, fun _ => ⟨fun _ => ?_, fun g => by omega⟩⟩⟩
  apply mo_run X2 v.toNat v 0 τ N (by omega) (by omega) (fr_rf _ _ _) O2 (by omega)
  have rr := ra_r (π := π) (L := L) v.toNat q
  rw [rr.2]
  have f2 := am_r_fr (π := π) (L := L) v.toNat τ
  have O3 := am_ok_r (L := L) X2.1 X2.2.1 v.toNat τ N O2
  refine h _ _ ⟨pk_fr (pk_fr C fr (by simp) (by simp)) f2 (by simp) (by simp), mo_X_fr X2 f2, Rc_fr f2 (Rc_ra rr.1 R1), ⟨O3.1, O3.2.1, by have := O3.2.2; omega⟩⟩ ?_
  exact fr_tr (fr_up fr (fun a ha => List.mem_append_left _ ha) (fun a ha => List.mem_append_left _ ha)) (fr_up f2 (fun a ha => List.mem_append_right _ ha) (fun a ha => List.mem_append_right _ ha))
end RU
