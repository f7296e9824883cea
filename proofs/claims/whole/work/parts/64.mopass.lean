/-! the reference's passes -/
theorem cn_le {F G : Int → Int} : ∀ n : Nat, (∀ j : Int, 0 ≤ j → j < n → F j ≤ G j) → cn F n ≤ cn G n
  | 0, _ => Int.le_refl _
  | n + 1, h => by
    have ih := cn_le n (fun j j0 j1 => h j j0 (by omega))
    have := h n (by omega) (by omega)
    simp only [cn]
    omega
theorem cn_lt {F G : Int → Int} {k : Int} (k0 : 0 ≤ k) (hk : F k < G k) : ∀ n : Nat, (∀ j : Int, 0 ≤ j → j < n → F j ≤ G j) → k < n → cn F n + 1 ≤ cn G n
  | 0, _, h1 => by omega
  | n + 1, h, h1 => by
    simp only [cn]
    by_cases e : (n : Int) = k
    · have := cn_le n (fun j j0 j1 => h j j0 (by omega))
      rw [e]
      omega
    · have ih := cn_lt k0 hk n (fun j j0 j1 => h j j0 (by omega)) (by omega)
      have := h n (by omega) (by omega)
      omega
section MOP
variable {E : fb_E} {π σ τ : fb_S} {L L' : Int → Int} {f i k : Int} {Q : Int → fb_S → Prop}
theorem kx_in (hP : iv_P π) (k0 : 0 ≤ k) (k1 : k < π.1 42) : (0 ≤ kx π k ∧ kx π k < 144) ∧ (0 ≤ k - π.2 14 (π.2 16 k) ∧ k - π.2 14 (π.2 16 k) < 24) := by
  have hk := iv_k hP k0 k1
  have hb := hP.2.1 _ hk.1.1 (show π.2 16 k < 6 by omega)
  unfold kx
  omega
theorem kx_inj (hP : iv_P π) {j : Int} (j0 : 0 ≤ j) (j1 : j < π.1 42) (k0 : 0 ≤ k) (k1 : k < π.1 42) (h : kx π j = kx π k) : j = k := by
  have a := kx_in hP j0 j1
  have b := kx_in hP k0 k1
  unfold kx at h
  have e : π.2 16 j = π.2 16 k := by omega
  rw [e] at h
  omega
def mo_C (π σ : fb_S) : Prop := iv_P π ∧ iv_good π ∧ pg π σ ∧ (∀ x, 0 ≤ x → x < 6 → σ.2 47 x = iv_bs π x) ∧ (∀ f g, 0 ≤ f → f < 6 → 0 ≤ g → g < 24 → iv_01 (iv_gp π (π.1 42) f g) (σ.2 51 (24 * f + g))) ∧ (∀ j, 0 ≤ j → j < 144 → 0 ≤ σ.2 50 j ∧ σ.2 50 j < 65536) ∧ (∀ j, 0 ≤ j → j < 144 → σ.2 52 j = 0 ∨ σ.2 52 j = 1)
def mo_LI (π σ : fb_S) (L : Int → Int) (k : Int) (τ : fb_S) : Prop := fr_a [49, 50, 53, 54] [173, 175, 181] σ τ ∧ τ.1 173 = ly_a π L k ∧ (∀ j, 0 ≤ j → j < k → τ.2 50 (kx π j) = ly_a π L j) ∧ (∀ j, k ≤ j → j < π.1 42 → τ.2 50 (kx π j) = σ.2 50 (kx π j)) ∧ (∀ j, 0 ≤ j → j < 144 → 0 ≤ τ.2 50 j ∧ τ.2 50 j < 65536) ∧ (∀ j, 0 ≤ j → j < k → τ.2 53 (kx π j) = ly_w1 π L j ∧ (π.2 17 j = 13 → τ.2 54 (kx π j) = ly_w2 π j)) ∧ ((∀ j, 0 ≤ j → j < π.1 42 → σ.2 50 (kx π j) = ly_a π L j) → ly_bt π L 1700 (τ.2 49) k)
theorem mo_okL : fr_ok [49, 50, 53, 54] [173, 175, 181] := by unfold fr_ok; simp
theorem mo_okZ : fr_ok [49, 53, 54] [173, 175, 181] := by unfold fr_ok; simp
theorem mo_fin (hP : iv_P π) (hg : iv_good π) (k0 : 0 ≤ k) (k1 : k < π.1 42) (I : mo_LI π σ L k τ) {τ1 ρ : fb_S} (fr : fr_a [49, 50, 53, 54] [173, 175, 181] σ τ1) (e50 : ∀ j, τ1.2 50 j = if j = kx π k then ly_a π L k else τ.2 50 j) (e49 : τ1.2 49 = τ.2 49) (e53 : τ1.2 53 = τ.2 53) (e54 : τ1.2 54 = τ.2 54) (z : mo_Z π L k τ1 ρ) : mo_LI π σ L (k + 1) ρ := by
  obtain ⟨i1, i2, i3, i4, i5, i6, i7⟩ := I
  obtain ⟨z1, z2, z3, z4, z5, z6, z7, z8⟩ := z
  have r50 : ∀ j, ρ.2 50 j = if j = kx π k then ly_a π L k else τ.2 50 j := fun j => by rw [z1.2 50 (by simp)]; exact e50 j
  have inj : ∀ j, 0 ≤ j → j < π.1 42 → ¬ j = k → ¬ kx π j = kx π k := fun j j0 j1 hn e => hn (kx_inj hP j0 j1 k0 k1 e)
  refine ⟨fr_tr fr (fr_up z1 (by simp) (by simp)), z2, fun j j0 j1 => ?_, fun j j0 j1 => ?_, fun j j0 j1 => ?_, fun j j0 j1 => ?_, fun old => ?_⟩
  · rw [r50]
    by_cases e : j = k
    · rw [e, if_pos rfl]
    · rw [if_neg (inj j j0 (by omega) e)]; exact i3 j j0 (by omega)
  · rw [r50, if_neg (inj j (by omega) j1 (by omega))]; exact i4 j (by omega) j1
  · rw [r50]
    have hA := hP.1
    unfold iv_A at hA
    split
    · have := ly_a_b (π := π) (L := L) k0
      omega
    · exact i5 j j0 j1
  · by_cases e : j = k
    · rw [e]; exact ⟨z7, z8⟩
    · have := z6 _ (inj j j0 (by omega) e)
      rw [this.1, this.2, e53, e54]
      exact i6 j j0 (by omega)
  · have all : ∀ j, 0 ≤ j → j < π.1 42 → τ1.2 50 (kx π j) = ly_a π L j := by
      intro j j0 j1
      rw [e50]
      by_cases e : j = k
      · rw [e, if_pos rfl]
      · rw [if_neg (inj j j0 j1 e)]
        by_cases lt : j < k
        · exact i3 j j0 lt
        · rw [i4 j (by omega) j1]; exact old j j0 j1
    have ec : ly_it π k (τ1.2 50 (kx π (ly_gi π k))) (L k) (ly_b π L k) = ly_c π L k := by
      unfold ly_c
      by_cases ho : π.2 17 k = 10 ∨ π.2 17 k = 11 ∨ π.2 17 k = 12 ∨ π.2 17 k = 13
      · have := ly_gi_in hP hg k0 k1 ho
        rw [all _ this.1 this.2]
      · unfold ly_it
        exact it_in_a ho
    rw [ec] at z5
    refine ly_bt_s (i7 old) k0 (fun j j0 j1 => ?_) (fun n x hx _ => z5 n x hx)
    rw [z4 j j0 j1, e49]
theorem mo_layOut (C : mo_C π σ) (hL : ∀ j, 0 ≤ j → j < π.1 42 → L j = σ.2 52 (kx π j)) (kk : ∀ ρ, mo_LI π σ L (π.1 42) ρ → Q 0 ρ) : fb_V E fb_Mo_layOut 0 [.inr 5, .inr 999, .inr 999, .inr 999] [] σ Q := by
  obtain ⟨hP, hg, g, h47, h51, h50, h52⟩ := C
  obtain ⟨hA, hB, hC, hD, hG, hF, hE⟩ := id hP
  unfold iv_A at hA
  unfold iv_D at hD
  apply Mo_layOut_b0
  have outer := lp_st (P := fun v τ => fb_V E fb_Mo_layOut 7 [.inr 5, .inl v, .inr 999, .inr 999] [] τ Q) (I := fun v τ => ∃ n, (v < π.1 41 → n = π.2 14 v) ∧ (v = π.1 41 → n = π.1 42) ∧ mo_LI π σ L n τ) (N := π.1 41) ?_ ?_
  · refine outer 0 _ (by omega) (by omega) ⟨0, fun q => (hD.2.1 q).symm, fun q => (hD.1 q.symm).symm, fr_sg (fr_rf _ _ _) (by decide), rfl, fun j j0 j1 => by omega, fun j j0 j1 => rfl, h50, fun j j0 j1 => by omega, fun old j j0 j1 => by omega⟩
  · intro f τ f0 f1 J ih
    obtain ⟨n, n1, -, I⟩ := J
    have hn := n1 f1
    subst hn
    have f6 : f < 6 := by omega
    have hb := hB f f0 f6
    have hgf := hG f f0 f1
    have e160 : τ.1 160 = π.1 41 := by rw [I.1.1 160 (by simp), g.2.2.2.1]; exact hA.2.2.1
    apply Mo_layOut_b7
    rw [e160]
    refine ⟨by omega, by omega, fun q => by omega, fun _ => ?_⟩
    have inner := lp_st (P := fun i τ => fb_V E fb_Mo_layOut 25 [.inr 5, .inl f, .inl (24 * f + i), .inr 999] [] τ Q) (I := fun i τ => mo_LI π σ L (π.2 14 f + i) τ ∧ (i = 0 → τ.1 175 = -1) ∧ (0 < i → τ.1 175 = ly_o π L (π.2 14 f + i) ∧ (-1 ≤ τ.1 175 ∧ τ.1 175 < 512))) (N := π.2 15 f) ?_ ?_
    · have := inner 0 (fb_sg τ 175 (-1)) (by omega) (by omega) ⟨?_, fun _ => rfl, fun q => by omega⟩
      · rw [Int.add_zero] at this; exact this
      · rw [Int.add_zero]
        obtain ⟨i1, i2, i3, i4, i5, i6, i7⟩ := I
        exact ⟨fr_sg i1 (by decide), i2, i3, i4, i5, i6, i7⟩
    · intro i ρ i0 i1 K ih2
      obtain ⟨J, hz, hp⟩ := K
      have hfk := iv_fk hP f0 f1 i0 i1
      generalize hk : π.2 14 f + i = k at *
      have gρ : pg π ρ := g.fr mo_okL J.1
      obtain ⟨k0, k1⟩ := hfk.1
      have ef : π.2 16 k = f := hfk.2.1
      have hkx : kx π k = 24 * f + i := by rw [← hk]; exact kx_fi hP f0 f1 i0 i1
      have e51 : ρ.2 51 = σ.2 51 := J.1.2 51 (by simp)
      have e52 : ρ.2 52 = σ.2 52 := J.1.2 52 (by simp)
      have h01 := h51 f i f0 f6 i0 (by omega)
      have hab := ly_a_b (π := π) (L := L) k0
      have e43 : ρ.2 43 (24 * f + i) = π.2 17 k := by rw [gρ.a 43 (by omega)]; exact hfk.2.2.1
      have go : ∀ s : fb_S, s.2 = ρ.2 → s.1 173 = ρ.1 173 → s.1 175 = ly_i π L k → (-1 ≤ s.1 175 ∧ s.1 175 < 512) → fr_a [49, 50, 53, 54] [173, 175, 181] σ s → fb_V E fb_Mo_layOut 61 [.inr 5, .inl f, .inl (24 * f + i), .inl (π.2 17 k)] [] s Q := by
        intro s s2 s173 s175 sr sf
        obtain ⟨τ1, h1, y173, y175, y181, y50, y49, y53, y54⟩ : ∃ τ1, fb_sg (fb_sm s 50 (24 * f + i) (s.1 173)) 181 0 = τ1 ∧ τ1.1 173 = ρ.1 173 ∧ τ1.1 175 = s.1 175 ∧ τ1.1 181 = 0 ∧ (∀ j, τ1.2 50 j = if j = 24 * f + i then ρ.1 173 else ρ.2 50 j) ∧ τ1.2 49 = ρ.2 49 ∧ τ1.2 53 = ρ.2 53 ∧ τ1.2 54 = ρ.2 54 :=
          ⟨_, rfl, s173, rfl, rfl, fun j => by rw [fb_sg2, fb_at, s2, s173], by rw [fb_sg2, fb_ne (by decide), s2], by rw [fb_sg2, fb_ne (by decide), s2], by rw [fb_sg2, fb_ne (by decide), s2]⟩
        have fr1 : fr_a [49, 50, 53, 54] [173, 175, 181] σ τ1 := by rw [← h1]; exact fr_sg (fr_sm sf (by decide)) (by decide)
        have g1 : pg π τ1 := g.fr mo_okL fr1
        refine mo_instr (L := L) hP hg g1 (by rw [fr1.2 47 (by simp)]; exact h47) (fun j j0 j1 => ?_) f0 f1 i0 i1 hk.symm (by rw [fr1.2 52 (by simp)]; exact h52 _ (by omega) (by omega)) ⟨by rw [y173, J.2.1]; omega, by rw [y175]; exact sr⟩ y181 (by rw [hL k k0 k1, hkx, fr1.2 52 (by simp)]) (by rw [y173, J.2.1]) (by rw [y175, s175]) (fun ρ' z => ?_) h1
        · rw [y50]
          split
          · rw [J.2.1]; omega
          · exact J.2.2.2.2.1 j j0 j1
        · rw [show 24 * f + i + 1 = 24 * f + (i + 1) by omega]
          refine ih2 ρ' ⟨?_, fun q => by omega, fun _ => ?_⟩
          · rw [show π.2 14 f + (i + 1) = k + 1 by omega]
            exact mo_fin hP hg k0 k1 J fr1 (fun j => by rw [y50, hkx, J.2.1]) y49 y53 y54 z
          · rw [show π.2 14 f + (i + 1) = k + 1 by omega]
            exact z.2.2.1
      apply Mo_layOut_b25
      rw [gρ.a 41 (by omega), hb.2.2.2.1, e51, e43]
      refine ⟨by omega, by omega, by omega, fun q => by omega, fun _ => ⟨by omega, by rcases iv_01_v h01 with e | e <;> omega, fun q => ?_, fun q => ?_⟩⟩
      · have ngp : ¬ iv_gp π (π.1 42) f i := (iv_01_zero h01).mp q
        by_cases ei : i = 0
        · have rs : ly_rs π k := Or.inl (by rw [ef]; omega)
          exact go ρ rfl rfl (by rw [hz ei, ly_i_y rs]) (by rw [hz ei]; omega) J.1
        · have nrs : ¬ ly_rs π k := by
            intro hr
            rcases hr with hr | hr
            · rw [ef] at hr; omega
            · rw [ef, show k - π.2 14 f = i by omega] at hr; exact ngp hr
          have := hp (by omega)
          exact go ρ rfl rfl (by rw [this.1, ly_i_n nrs]) this.2 J.1
      · have hgp : iv_gp π (π.1 42) f i := (iv_01_one h01).mp (by rcases iv_01_v h01 with e | e <;> omega)
        have rs : ly_rs π k := Or.inr (by rw [ef, show k - π.2 14 f = i by omega]; exact hgp)
        exact go (fb_sg ρ 175 (-1)) rfl rfl (by rw [ly_i_y rs]; rfl) (by rw [show (fb_sg ρ 175 (-1)).1 175 = -1 from rfl]; omega) (fr_sg J.1 (by decide))
    · intro ρ K
      have gρ : pg π ρ := g.fr mo_okL K.1.1
      apply Mo_layOut_b25
      rw [gρ.a 41 (by omega), hb.2.2.2.1]
      refine ⟨by omega, by omega, by omega, fun _ => ih ρ ⟨π.2 14 f + π.2 15 f, fun q => (hD.2.2.1 f f0 q).symm, fun q => ?_, K.1⟩, fun q => by omega⟩
      have := hD.2.2.2 (by omega)
      rw [show π.1 41 - 1 = f by omega] at this
      exact this.symm
  · intro τ J
    obtain ⟨n, -, n2, I⟩ := J
    have hn := n2 rfl
    subst hn
    have e160 : τ.1 160 = π.1 41 := by rw [I.1.1 160 (by simp), g.2.2.2.1]; exact hA.2.2.1
    apply Mo_layOut_b7
    rw [e160]
    exact ⟨by omega, by omega, fun _ => kk τ I, fun q => by omega⟩
end MOP
