/-! CALL and branches -/
section ASY
variable {E : fb_E} {σ τ : fb_S} {f : Int} {l : em_I} {Q : Int → fb_S → Prop}
theorem ct_emitRes (h : as_cx σ f τ l) (hl : l.length ≤ 20) (b : Int) (hb : iv_sc (iv_z σ f) b) (k : ∀ ρ, as_cx σ f ρ (l ++ it_res (iv_z σ f) (as_pt σ f) b) → Q 0 ρ) : fb_V E fb_As_emitCall 94 [.inr 3, .inr 999, .inr 999, .inl b, .inr 999, .inl 0] [] τ Q := by
  obtain ⟨nb, rb, b0, b1⟩ := as_scv h hb
  have bl : ∀ m : em_I, m.length ≤ 10 → Nat.ble ((l ++ m).length + 1) 40 = true := fun m hm => by rw [Nat.ble_eq, List.length_append]; omega
  have hz : iv_z σ f b = 1 ∨ iv_z σ f b = 2 := hb
  apply As_emitCall_b94
  apply as_sz h rb
  refine ⟨by omega, by omega, fun q => by omega, fun _ => ?_⟩
  apply as_em h _ _ (by omega) (by omega) (by rw [Nat.ble_eq]; omega)
  intro ρ1 c1
  apply as_part c1 nb (by omega)
  apply as_em c1 _ _ (by omega) (by omega) (bl [_] (by simp))
  intro ρ2 c2
  have c2 := as_asc c2
  rw [show (0 : Int) + 1 = 1 from rfl]
  apply As_emitCall_b94
  apply as_sz c2 rb
  refine ⟨by omega, by omega, fun q => k ρ2 (as_more c2 (it_21 (show ¬ iv_z σ f b = 2 by omega) rfl)), fun q => ?_⟩
  apply as_em c2 _ _ (by omega) (by omega) (bl [_, _] (by simp))
  intro ρ3 c3
  have c3 := as_asc c3
  apply as_part c3 nb (by omega)
  apply as_em c3 _ _ (by omega) (by omega) (bl [_, _, _] (by simp))
  intro ρ4 c4
  have c4 := as_asc c4
  rw [show (1 : Int) + 1 = 2 from rfl]
  apply As_emitCall_b94
  apply as_sz c4 rb
  exact ⟨by omega, by omega, fun _ => k ρ4 (as_more c4 (it_22 (show iv_z σ f b = 2 by omega) rfl)), fun q => by omega⟩
theorem ct_emitCall (h : as_cx σ f τ l) (hl : l.length ≤ 10) (g a b : Int) (hg : 0 ≤ g ∧ g < σ.1 41) (ha : iv_sc (iv_z σ f) a) (hb : iv_sc (iv_z σ f) b) (hfs : 0 ≤ σ.2 14 g ∧ σ.2 14 g < 60) (had : 0 ≤ σ.2 33 (σ.2 14 g) ∧ σ.2 33 (σ.2 14 g) < 65536)
    (k : ∀ ρ, as_cx σ f ρ (l ++ (it_par (as_pt σ f) (iv_z σ g 0) (σ.2 (25 + g.toNat) 0) a ++ [(19, σ.2 33 (σ.2 14 g))] ++ it_res (iv_z σ f) (as_pt σ f) b)) → Q 0 ρ) : fb_V E fb_As_emitCall 0 [.inr 3, .inl g, .inl a, .inl b, .inr 999, .inr 999] [] τ Q := by
  obtain ⟨na, ra, a0, a1⟩ := as_scv h ha
  have h6 := h.f6
  have hfc := h.fc
  have bl : ∀ m : em_I, m.length ≤ 10 → Nat.ble ((l ++ m).length + 1) 40 = true := fun m hm => by rw [Nat.ble_eq, List.length_append]; omega
  have hz8 := iv_sz_in h.2.2.1.1 g 0
  rw [iv_sz_z hg.1 hg.2] at hz8
  have jsr : ∀ (ρ : fb_S) (m : em_I), m = it_par (as_pt σ f) (iv_z σ g 0) (σ.2 (25 + g.toNat) 0) a → m.length ≤ 4 → as_cx σ f ρ (l ++ m) → fb_V E fb_As_emitJump 0 [.inr 3, .inl 19, .inl (ρ.2 33 (ρ.2 14 g))] [] ρ (fun _ s6 => fb_V E fb_As_emitCall 94 [.inr 3, .inr 999, .inr 999, .inl b, .inr 999, .inl 0] [] (fb_sg s6 106 (-1)) Q) := by
    intro ρ m hm hml c
    rw [c.arr (a := 14) (by decide), c.arr (a := 33) (by decide)]
    apply as_jsr c _ had (bl m (by omega))
    intro ρ2 c2
    have c2 := as_asc c2
    apply ct_emitRes c2 (by simp [List.length_append]; omega) b hb
    intro ρ3 c3
    have c3 := as_asc c3
    rw [hm] at c3
    exact k ρ3 c3
  apply As_emitCall_b0
  apply ct_sizeOf g 0 (by omega) (by omega) (by omega) (fun x x0 x6 => (h.P.2.1 x x0 x6).1)
  rw [iv_sz_z hg.1 (by omega), h.z hg.1 (by omega)]
  apply ct_isScalar _ (by omega)
  · intro hsc
    refine ⟨by omega, fun q => by omega, fun _ => ?_⟩
    have hgr := iv_sc_in (show iv_z σ g 0 ≠ 0 by omega)
    have hpg := h.2.2.1.2.2.2 g 0 hg.1 hg.2 hgr.1 hgr.2
    apply As_emitCall_b22
    refine ⟨by omega, by omega, fun q => by omega, fun _ => ?_⟩
    apply as_part h na (by omega)
    apply as_em h _ _ (by omega) (by omega) (by rw [Nat.ble_eq]; omega)
    intro ρ1 c1
    rw [c1.arr (a := 25 + g.toNat) (by omega), Int.add_zero]
    refine ⟨by omega, ?_⟩
    apply as_em c1 _ _ (by omega) (by omega) (bl [_] (by simp))
    intro ρ2 c2
    have c2 := as_asc c2
    have hfs2 := hfs
    rw [← c2.arr (a := 14) (by decide)] at hfs2
    rw [show (0 : Int) + 1 = 1 from rfl]
    apply As_emitCall_b22
    refine ⟨by omega, by omega, fun q => ⟨by omega, hfs2, jsr ρ2 _ (by unfold it_par; rw [if_pos (show iv_z σ g 0 = 1 by omega)]; rfl) (by simp) c2⟩, fun q => ?_⟩
    apply as_part c2 na (by omega)
    apply as_em c2 _ _ (by omega) (by omega) (bl [_, _] (by simp))
    intro ρ3 c3
    have c3 := as_asc c3
    rw [c3.arr (a := 25 + g.toNat) (by omega)]
    refine ⟨by omega, ?_⟩
    apply as_em c3 _ _ (by omega) (by omega) (bl [_, _, _] (by simp))
    intro ρ4 c4
    have c4 := as_asc c4
    have hfs4 := hfs
    rw [← c4.arr (a := 14) (by decide)] at hfs4
    rw [show (1 : Int) + 1 = 2 from rfl]
    apply As_emitCall_b22
    exact ⟨by omega, by omega, fun _ => ⟨by omega, hfs4, jsr ρ4 _ (by unfold it_par; rw [if_neg (show ¬ iv_z σ g 0 = 1 by omega), if_pos (show iv_z σ g 0 = 2 by omega)]; rfl) (by simp) c4⟩, fun q => by omega⟩
  · intro hsc
    have hfs2 := hfs
    rw [← h.arr (a := 14) (by decide)] at hfs2
    refine ⟨by omega, fun _ => ⟨by omega, hfs2, jsr τ [] (by unfold it_par; rw [if_neg (by omega), if_neg (by omega)]) (by simp) (by rw [List.append_nil]; exact h)⟩, fun q => absurd rfl q⟩
/-- the bytes of a branch at pos -/
def it_br (n pos goal lg : Int) : em_I := if lg = 0 then [(30, 8 * n + 6), (30, (goal - (pos + 2)) % 256)] else [(30, 8 * (n + 1) + 6), (30, 3), (30, 151), (30, goal % 256), (30, goal / 256)]
end ASY
