/-! the class's processor: guards, output, branches, jumps, calls, returns -/
section JP
variable {E : fb_E} {π σ τ : fb_S} {L : Int → Int} {S k s n q a x c z : Int} {d : Int → Int} {l m : em_I} {Q : Int → fb_S → Prop}
/-- the fields and arrays of a run, on the class's side -/
abbrev po_A : List Nat := [37, 38, 39]
abbrev po_G : List Nat := [132, 133, 134, 135, 136, 137, 138, 139, 140]
theorem po_up (h : fr_a [37] [134, 136, 137, 138, 139, 140] σ τ) : fr_a po_A po_G σ τ := fr_up h (by simp) (by simp)
theorem em_B_3 (h : Int) (y1 y2 y3 : Int × Int) (h1 : 30 ≤ y1.1 ∧ y1.1 ≤ 31) (h2 : 30 ≤ y2.1 ∧ y2.1 ≤ 31) (h3 : 30 ≤ y3.1 ∧ y3.1 ≤ 31) : em_B h [y1, y2, y3] = [y1.2, y2.2, y3.2] := by
  have one : ∀ (h : Int) (y : Int × Int), 30 ≤ y.1 ∧ y.1 ≤ 31 → em_b h y.1 y.2 = [y.2] := fun h y hy => by
    unfold em_b
    rw [if_neg (by omega), if_neg (by omega), if_neg (by omega), if_pos hy.2]
  show em_b _ _ _ ++ (em_b _ _ _ ++ (em_b _ _ _ ++ [])) = _
  rw [one _ y1 h1, one _ y2 h2, one _ y3 h3]
  rfl
theorem cb_app1 {p : Int} {B1 B2 : List Int} (h : cb σ p (B1 ++ B2)) : cb σ p B1 := by
  intro i b hb
  have hi := (List.getElem?_eq_some_iff.mp hb).1
  exact h i b (by rw [List.getElem?_append_left hi]; exact hb)
/-- the guard of an index: C is 0 where it is in range -/
theorem g_guard (C : gc π L k σ) (N : ∃ x ∈ m, ¬ x.1 = 0 ∧ x.1 ≤ 31) (h0 : c = 0 → Gt S E π L k σ Q (l ++ [(31, 134), (30, 1), (30, 176)]) m d a x c z) (h1 : c = 1 → ∀ τ, fr_a po_A po_G σ τ → (τ.1 132 = σ.1 132 ∧ τ.1 135 = σ.1 135 ∧ τ.2 38 = σ.2 38) → τ.1 133 = 2 → τ.1 134 = σ.1 134 + em_W (ly_i π L k) l + 2 → Q 0 τ) : Gt S E π L k σ Q l ((31, 134) :: (30, 1) :: (30, 176) :: m) d a x c z := by
  intro e τ s P
  have P0 := P
  obtain ⟨⟨f0, ⟨f1, f2⟩, f3, ⟨f4, f5⟩, ⟨f6, f7⟩, ⟨f8, f9⟩, f10⟩, f11, f12⟩ := P0
  obtain ⟨hC, hk, hz0⟩ := C
  have hcb := pi_cb hC hk.1 hk.2 (m1 := [(31, 134), (30, 1), (30, 176)]) (m2 := m) e
  rw [em_B_3 _ _ _ _ (by decide) (by decide) (by decide)] at hcb
  obtain ⟨c1, c2, c3, c4⟩ := hcb
  have hm := em_B_pos m (hh π L k (l ++ [(31, 134), (30, 1), (30, 176)])) N
  simp only [List.length_cons, List.length_nil] at c2
  have hl : l.length ≤ 9 := by
    have := lc_len (π := π) (L := L) (k := k)
    rw [e, List.length_append] at this
    omega
  have c1' := cb_fr c1 (f0.2 31 (by simp))
  refine ⟨fun g => by omega, fun _ => ?_⟩
  apply pf_go hC (by omega)
  apply px_branch (pp π L k l) 16 1 (c = 0) f1 (cb_app1 (B1 := [8 * 16 + 6, 1]) (B2 := [176]) c1') (by omega) (by omega) (by rw [f10.1]; exact f10.2) (by rw [f8]; exact f9) (by rw [f8]; omega)
  · intro nc
    refine Or.inr ⟨(f0.1 133 (by decide)).trans hz0, f0.2 32 (by simp), k, hk, Or.inr ⟨?_, ?_⟩⟩
    · show ly_a π L k < pp π L k l + 2 ∧ pp π L k l + 2 < ly_a π L (k + 1)
      omega
    · apply pf_go hC (by omega)
      have c9 := cb_tl (τ := px_N τ (pp π L k l + 2)) (cb_tl (τ := px_N τ (pp π L k l + 2)) c1' rfl) rfl
      rw [show pp π L k l + 1 + 1 = pp π L k l + 2 by omega] at c9
      apply px_alone (σ := px_N τ (pp π L k l + 2)) (pp π L k l + 2) 22 rfl c9 (by omega)
      apply Po_doAlone_b0
      refine ⟨by omega, fun g => by omega, fun g => by omega, fun g => by omega, fun g => by omega, fun _ => Or.inl ⟨Or.inr rfl, ?_⟩⟩
      refine h1 (by omega) _ (fr_sg (fr_sg (fr_sg (fr_sg (fr_sg (po_up f0) (by decide)) (by decide)) (by decide)) (by decide)) (by decide)) ⟨f0.1 132 (by decide), f0.1 135 (by decide), f0.2 38 (by simp)⟩ rfl ?_
      show τ.1 134 + 1 + 1 = _
      omega
  · intro yc
    refine Or.inr ⟨(f0.1 133 (by decide)).trans hz0, f0.2 32 (by simp), ?_⟩
    rw [show (px_N τ (pp π L k l + 2 + (if (1 : Int) < 128 then 1 else 1 - 256))).1 136 = pp π L k (l ++ [(31, 134), (30, 1), (30, 176)]) by rw [c2]; show pp π L k l + 2 + 1 = _; omega]
    refine ld_of hk.1 hk.2 (by omega) (by omega) (fun g => by omega) (h0 yc (by rw [List.append_assoc]; exact e) _ (s + 1) ⟨⟨fr_tr f0 (px_N_fr _ _), ⟨?_, ?_⟩, f3, ⟨f4, f5⟩, ⟨f6, f7⟩, ⟨f8, f9⟩, f10⟩, ?_, ?_⟩)
    · show pp π L k l + 2 + 1 = _
      rw [c2]
      omega
    · show τ.1 134 + 1 = _
      rw [em_W_app]
      show _ = σ.1 134 + (_ + (em_w _ 31 134 + (em_w _ 30 1 + (em_w _ 30 176 + 0))))
      rw [show ∀ h, em_w h 31 134 = 1 from fun h => rfl, show ∀ h, em_w h 30 1 = 0 from fun h => rfl, show ∀ h, em_w h 30 176 = 0 from fun h => rfl]
      omega
    · unfold hh
      rw [em_H_app]
      exact f11
    · rw [List.length_append]
      show 0 ≤ s + 1 ∧ s + 1 ≤ S + ((l.length + 3 : Nat) : Int) ∧ S ≤ 20
      omega
/-- a byte is put out -/
def po_snd (σ : fb_S) (b : Int) : fb_S := if 100 ≤ σ.1 135 then fb_sg σ 135 (σ.1 135 + 1) else fb_sg (fb_sm σ 38 (σ.1 135) b) 135 (σ.1 135 + 1)
theorem po_snd_fr (σ : fb_S) (b : Int) : fr_a [38] [135] σ (po_snd σ b) := by
  unfold po_snd
  exact fr_ite (fr_sg (fr_rf _ _ _) (by decide)) (fr_sg (fr_sm (fr_rf _ _ _) (by decide)) (by decide))
theorem pk_fr {A G : List Nat} (C : pk π L σ) (fr : fr_a A G σ τ) (h31 : 31 ∉ A) (h32 : 32 ∉ A) : pk π L τ := by
  unfold pk at *
  rw [fr.2 31 h31, fr.2 32 h32]
  exact C
theorem fr_pair (h : fr_a [37] [134, 136, 137, 138, 139, 140] σ τ) (b : Int) : fr_a [37] [134, 136, 137, 138, 139, 140] (po_snd σ b) (po_snd τ b) := by
  unfold po_snd
  rw [h.1 135 (by decide)]
  by_cases g : 100 ≤ σ.1 135
  · rw [if_pos g, if_pos g]
    refine ⟨fun j hj => ?_, h.2⟩
    rw [fb_sg1, fb_sg1, h.1 j hj]
  · rw [if_neg g, if_neg g]
    refine ⟨fun j hj => ?_, fun b hb => ?_⟩
    · rw [fb_sg1, fb_sg1, fb_sm1, fb_sm1, h.1 j hj]
    · funext i
      rw [fb_sg2, fb_sg2, fb_a2, fb_a2, h.2 b hb]
theorem g_out (C : gc π L k σ) (N : nl π k m) (ho : 0 ≤ σ.1 135 ∧ σ.1 135 < 2147483000) (h : Gt S E π L k (po_snd σ a) Q (l ++ [(21, 0)]) m d a x c z) : Gt S E π L k σ Q l ((21, 0) :: m) d a x c z := by
  intro e τ s P
  have P0 := P
  obtain ⟨⟨f0, ⟨f1, f2⟩, f3, ⟨f4, f5⟩, ⟨f6, f7⟩, ⟨f8, f9⟩, f10⟩, f11, f12⟩ := P0
  obtain ⟨hC, hk, hz0⟩ := C
  have hcb := pi_cb hC hk.1 hk.2 (m1 := [(21, 0)]) (m2 := m) e
  rw [em_B_1, show em_b (hh π L k l) 21 0 = [8 * 21] from rfl] at hcb
  obtain ⟨c1, c2, c3, c4⟩ := hcb
  simp only [List.length_cons, List.length_nil] at c2
  have hl : l.length ≤ 9 := by
    have := lc_len (π := π) (L := L) (k := k)
    rw [e, List.length_append] at this
    omega
  refine ⟨fun g => by omega, fun _ => ?_⟩
  apply pf_go hC (by omega)
  apply px_alone (pp π L k l) 21 f1 (cb_fr c1 (f0.2 31 (by simp))) (by omega)
  have hpp' : pp π L k l + 1 = pp π L k (l ++ [(21, 0)]) := by omega
  rw [hpp']
  have fN : fr_a [37] [134, 136, 137, 138, 139, 140] σ (px_N τ (pp π L k (l ++ [(21, 0)]))) := fr_tr f0 (px_N_fr _ _)
  have fin : ∀ ρ, ρ = po_snd (px_N τ (pp π L k (l ++ [(21, 0)]))) a → ((ρ.1 133 = 1 ∨ ρ.1 133 = 2) ∧ Q 0 ρ) ∨ (ρ.1 133 = 0 ∧ ρ.2 32 = σ.2 32 ∧ ld E π L (ρ.1 136) (s + 1) ρ Q) := by
    intro ρ hρ
    have fp := fr_pair fN a
    have fo := po_snd_fr (px_N τ (pp π L k (l ++ [(21, 0)]))) a
    have fs := po_snd_fr σ a
    rw [← hρ] at fp fo
    refine Or.inr ⟨((fo.1 133 (by decide)).trans (f0.1 133 (by decide))).trans hz0, (fo.2 32 (by simp)).trans (f0.2 32 (by simp)), ?_⟩
    have e136 : ρ.1 136 = pp π L k (l ++ [(21, 0)]) := fo.1 136 (by decide)
    rw [e136]
    refine ld_of hk.1 hk.2 (by omega) (by omega) (fun g => ?_) (h (g_asc e) _ (s + 1) ⟨⟨fp, ⟨e136, ?_⟩, ?_, ?_, ?_, ?_, ?_⟩, ?_, ?_⟩)
    · rcases N with N | N
      · exact N
      · have := em_B_pos m (hh π L k (l ++ [(21, 0)])) N
        omega
    · rw [fo.1 134 (by decide), em_w_a (by omega), fs.1 134 (by decide)]
      show τ.1 134 + 1 = _
      omega
    · rw [fo.2 37 (by simp)]; exact f3
    · rw [fo.1 137 (by decide)]; exact ⟨f4, f5⟩
    · rw [fo.1 138 (by decide)]; exact ⟨f6, f7⟩
    · rw [fo.1 139 (by decide)]; exact ⟨f8, f9⟩
    · rw [fo.1 140 (by decide)]; exact f10
    · rw [hh_a (by omega) (by omega)]; exact f11
    · rw [List.length_append]
      show 0 ≤ s + 1 ∧ s + 1 ≤ S + ((l.length + 1 : Nat) : Int) ∧ S ≤ 20
      omega
  have e135 : (px_N τ (pp π L k (l ++ [(21, 0)]))).1 135 = σ.1 135 := f0.1 135 (by decide)
  have e137 : (px_N τ (pp π L k (l ++ [(21, 0)]))).1 137 = a := f4
  unfold po_snd at fin
  rw [e135] at fin
  apply Po_doAlone_b0
  refine ⟨by omega, fun g => by omega, fun g => by omega, fun g => by omega, fun _ => ?_, fun g => by omega⟩
  apply Po_putOut_b0
  rw [e135, e137]
  refine ⟨by omega, fun g => ?_, fun g => ⟨by omega, ?_⟩⟩
  · rw [if_pos g] at fin
    exact fin _ rfl
  · rw [if_neg g] at fin
    exact fin _ rfl
end JP
