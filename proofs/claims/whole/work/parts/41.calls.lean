/-! frames; targets and calls, gathered -/
/-- nothing changed but the arrays A and the fields G -/
def fr_a (A G : List Nat) (σ τ : fb_S) : Prop := (∀ k, k ∉ G → τ.1 k = σ.1 k) ∧ ∀ a, a ∉ A → τ.2 a = σ.2 a
theorem fr_rf (A G : List Nat) (σ : fb_S) : fr_a A G σ σ := ⟨fun _ _ => rfl, fun _ _ => rfl⟩
theorem fr_tr {A G : List Nat} {σ τ ρ : fb_S} (h : fr_a A G σ τ) (h2 : fr_a A G τ ρ) : fr_a A G σ ρ := ⟨fun k hk => (h2.1 k hk).trans (h.1 k hk), fun a ha => (h2.2 a ha).trans (h.2 a ha)⟩
theorem fr_up {A G A' G' : List Nat} {σ τ : fb_S} (h : fr_a A G σ τ) (hA : ∀ a ∈ A, a ∈ A') (hG : ∀ a ∈ G, a ∈ G') : fr_a A' G' σ τ := ⟨fun k hk => h.1 k (fun q => hk (hG k q)), fun a ha => h.2 a (fun q => ha (hA a q))⟩
theorem fr_sm {A G : List Nat} {σ τ : fb_S} (h : fr_a A G σ τ) {a : Nat} {i v : Int} (ha : a ∈ A) : fr_a A G σ (fb_sm τ a i v) := ⟨h.1, fun b hb => by
  have hne : b ≠ a := fun e => hb (by rw [e]; exact ha)
  rw [fb_ne hne]; exact h.2 b hb⟩
theorem fr_sg {A G : List Nat} {σ τ : fb_S} (h : fr_a A G σ τ) {k : Nat} {v : Int} (hk : k ∈ G) : fr_a A G σ (fb_sg τ k v) := ⟨fun j hj => by
  have hne : j ≠ k := fun e => hj (by rw [e]; exact hk)
  rw [fb_sg1, if_neg hne]; exact h.1 j hj, h.2⟩
/-- arrays and fields that a program doesn't live in -/
def fr_ok (A G : List Nat) : Prop := (∀ a ∈ A, ¬ ((7 ≤ a ∧ a ≤ 20) ∨ (40 ≤ a ∧ a ≤ 46))) ∧ 41 ∉ G ∧ 42 ∉ G ∧ 160 ∉ G ∧ 161 ∉ G
theorem fr_P {A G : List Nat} (hok : fr_ok A G) {σ τ : fb_S} (h : fr_a A G σ τ) (hP : iv_P σ) : iv_P τ :=
  iv_P_same hP (fun a ha => h.2 a (fun q => hok.1 a q ha)) (h.1 _ hok.2.1) (h.1 _ hok.2.2.1) (h.1 _ hok.2.2.2.1) (h.1 _ hok.2.2.2.2)
theorem fr_p2 {A G : List Nat} (hok : fr_ok A G) {σ τ : fb_S} (h : fr_a A G σ τ) {a : Nat} (ha : (7 ≤ a ∧ a ≤ 20) ∨ (40 ≤ a ∧ a ≤ 46)) : τ.2 a = σ.2 a := h.2 a (fun q => hok.1 a q ha)
theorem fr_tg {A G : List Nat} (hok : fr_ok A G) {σ τ : fb_S} (h : fr_a A G σ τ) (k : Int) : iv_tg τ k = iv_tg σ k := by
  unfold iv_tg
  rw [fr_p2 hok h (a := 17) (by omega), fr_p2 hok h (a := 18) (by omega), fr_p2 hok h (a := 19) (by omega), fr_p2 hok h (a := 20) (by omega)]
/-- flat place of instruction i of f -/
theorem iv_fk {σ : fb_S} (hP : iv_P σ) {f i : Int} (f0 : 0 ≤ f) (f1 : f < σ.1 41) (i0 : 0 ≤ i) (i1 : i < σ.2 15 f) : (0 ≤ σ.2 14 f + i ∧ σ.2 14 f + i < σ.1 42) ∧ σ.2 16 (σ.2 14 f + i) = f ∧ σ.2 43 (24 * f + i) = σ.2 17 (σ.2 14 f + i) ∧ σ.2 44 (24 * f + i) = σ.2 18 (σ.2 14 f + i) ∧ σ.2 45 (24 * f + i) = σ.2 19 (σ.2 14 f + i) ∧ σ.2 46 (24 * f + i) = σ.2 20 (σ.2 14 f + i) ∧ (0 ≤ 24 * f + i ∧ 24 * f + i < 144) ∧ f < 6 ∧ i < 24 := by
  obtain ⟨hA, hB, hC, hD, hG, hF, hE⟩ := hP
  unfold iv_A at hA
  have hg := hG f f0 f1
  have hb := hB f f0 (by omega)
  have he := hE f i f0 f1 i0 i1
  exact ⟨by omega, he.1, he.2.1, he.2.2.1, he.2.2.2.1, he.2.2.2.2.1, by omega, by omega, by omega⟩
theorem cm_goal {E : fb_E} {σ : fb_S} {Q : Int → fb_S → Prop} (hP : iv_P σ) {f i : Int} (f0 : 0 ≤ f) (f1 : f < σ.1 41) (i0 : 0 ≤ i) (i1 : i < σ.2 15 f) (h : Q (iv_tg σ (σ.2 14 f + i)) σ) : fb_V E fb_Mo_goal 0 [.inr 5, .inl (24 * f + i)] [] σ Q := by
  have hk := iv_fk hP f0 f1 i0 i1
  have ho := (iv_k hP hk.1.1 hk.1.2).2.2.2.1.1
  apply Mo_goal_b0
  unfold iv_tg at h
  rw [hk.2.2.1, hk.2.2.2.1, hk.2.2.2.2.1, hk.2.2.2.2.2.1]
  refine ⟨hk.2.2.2.2.2.2.1, by omega, fun h1 => ⟨fun h2 => ?_, fun h2 => ?_⟩, fun h1 => ?_⟩
  · rwa [if_neg h1, if_neg h2] at h
  · rwa [if_neg h1, if_pos h2] at h
  · rwa [if_pos h1] at h
theorem cm_branches {E : fb_E} {σ : fb_S} {Q : Int → fb_S → Prop} (o : Int) (ho : 0 ≤ o ∧ o ≤ 15) (h1 : o = 11 ∨ o = 12 → Q 1 σ) (h0 : ¬ (o = 11 ∨ o = 12) → Q 0 σ) : fb_V E fb_Mo_branches 0 [.inl o] [] σ Q := by
  apply Mo_branches_b0
  exact ⟨by omega, fun h => h1 (Or.inl h), fun h => ⟨fun h2 => h0 (by omega), fun h2 => h1 (Or.inr h2)⟩⟩
/-- some instruction of f below n aims at instruction j -/
def iv_gp (σ : fb_S) (n f j : Int) : Prop := ∃ k, 0 ≤ k ∧ k < n ∧ iv_isT (σ.2 17 k) ∧ σ.2 16 k = f ∧ iv_tg σ k = j
/-- some CALL of f below n calls g -/
def iv_cp (σ : fb_S) (n f g : Int) : Prop := ∃ k, 0 ≤ k ∧ k < n ∧ σ.2 17 k = 13 ∧ σ.2 16 k = f ∧ σ.2 18 k = g
def iv_01 (p : Prop) (x : Int) : Prop := (p → x = 1) ∧ (¬ p → x = 0)
theorem iv_01_or {p q : Prop} {x y : Int} (h : iv_01 p x) (hq : q → y = 1) (hn : ¬ q → y = x) : iv_01 (p ∨ q) y := by
  refine ⟨fun hpq => ?_, fun hpq => ?_⟩
  · by_cases hq' : q
    · exact hq hq'
    · rw [hn hq']; exact h.1 (hpq.resolve_right hq')
  · rw [hn (fun z => hpq (Or.inr z))]; exact h.2 (fun z => hpq (Or.inl z))
theorem iv_01_iff {p q : Prop} {x : Int} (h : iv_01 p x) (e : q ↔ p) : iv_01 q x := ⟨fun hq => h.1 (e.mp hq), fun hq => h.2 (fun z => hq (e.mpr z))⟩
theorem iv_01_v {p : Prop} {x : Int} (h : iv_01 p x) : x = 0 ∨ x = 1 := by
  by_cases hp : p
  · exact Or.inr (h.1 hp)
  · exact Or.inl (h.2 hp)
theorem iv_cp_s {σ : fb_S} {n f g : Int} (hn : 0 ≤ n) : iv_cp σ (n + 1) f g ↔ iv_cp σ n f g ∨ (σ.2 17 n = 13 ∧ σ.2 16 n = f ∧ σ.2 18 n = g) := by
  constructor
  · rintro ⟨k, k0, k1, h⟩
    by_cases e : k = n
    · subst e; exact Or.inr h
    · exact Or.inl ⟨k, k0, by omega, h⟩
  · rintro (⟨k, k0, k1, h⟩ | h)
    · exact ⟨k, k0, by omega, h⟩
    · exact ⟨n, hn, by omega, h⟩
theorem iv_gp_s {σ : fb_S} {n f j : Int} (hn : 0 ≤ n) : iv_gp σ (n + 1) f j ↔ iv_gp σ n f j ∨ (iv_isT (σ.2 17 n) ∧ σ.2 16 n = f ∧ iv_tg σ n = j) := by
  constructor
  · rintro ⟨k, k0, k1, h⟩
    by_cases e : k = n
    · subst e; exact Or.inr h
    · exact Or.inl ⟨k, k0, by omega, h⟩
  · rintro (⟨k, k0, k1, h⟩ | h)
    · exact ⟨k, k0, by omega, h⟩
    · exact ⟨n, hn, by omega, h⟩
/-- the class's matrix of calls -/
theorem ct_gatherCalls {E : fb_E} {σ : fb_S} {Q : Int → fb_S → Prop} (hP : iv_P σ) (hca : iv_ca σ) (h : ∀ τ, fr_a [21] [] σ τ → (∀ f g, 0 ≤ f → f < 6 → 0 ≤ g → g < 6 → iv_01 (iv_cp σ (σ.1 42) f g) (τ.2 21 (6 * f + g))) → Q 0 τ) : fb_V E fb_Fr_gatherCalls 0 [.inr 2, .inr 999] [] σ Q := by
  have hok : fr_ok [21] [] := by unfold fr_ok; simp
  have hA := hP.1
  unfold iv_A at hA
  apply Fr_gatherCalls_b0
  have clr := lp_st (P := fun v τ => fb_V E fb_Fr_gatherCalls 2 [.inr 2, .inl v] [] τ Q) (I := fun v τ => fr_a [21] [] σ τ ∧ ∀ j, 0 ≤ j → j < v → τ.2 21 j = 0) (N := 36) ?_ ?_
  · exact clr 0 σ (by omega) (by omega) ⟨fr_rf _ _ _, fun j j0 j1 => by omega⟩
  · intro v τ v0 v1 hI ih
    apply Fr_gatherCalls_b2
    refine ⟨by omega, fun h => by omega, fun _ => ⟨by omega, ih _ ⟨fr_sm hI.1 (by decide), fun j j0 j1 => ?_⟩⟩⟩
    rw [fb_at]
    split
    · rfl
    · exact hI.2 j j0 (by omega)
  · intro τ hI
    apply Fr_gatherCalls_b2
    refine ⟨by omega, fun _ => ?_, fun h => by omega⟩
    have lp := lp_st (P := fun v τ => fb_V E fb_Fr_gatherCalls 26 [.inr 2, .inl v] [] τ Q) (I := fun v τ => fr_a [21] [] σ τ ∧ ∀ f g, 0 ≤ f → f < 6 → 0 ≤ g → g < 6 → iv_01 (iv_cp σ v f g) (τ.2 21 (6 * f + g))) (N := σ.1 42) ?_ ?_
    · exact lp 0 τ (by omega) (by omega) ⟨hI.1, fun f g f0 f6 g0 g6 => ⟨fun ⟨k, k0, k1, _⟩ => by omega, fun _ => hI.2 _ (by omega) (by omega)⟩⟩
    · intro v ρ v0 v1 hJ ih
      have e17 := fr_p2 hok hJ.1 (a := 17) (by omega)
      have e16 := fr_p2 hok hJ.1 (a := 16) (by omega)
      have e18 := fr_p2 hok hJ.1 (a := 18) (by omega)
      have e42 : ρ.1 42 = σ.1 42 := hJ.1.1 42 (by simp)
      have hk := iv_k hP v0 v1
      have ho := hk.2.2.2.1.1
      apply Fr_gatherCalls_b26
      rw [e17, e16, e18, e42]
      refine ⟨by omega, by omega, fun h => by omega, fun _ => ⟨by omega, by omega, fun hc => ih _ ⟨hJ.1, fun f g f0 f6 g0 g6 => ?_⟩, fun hc => ?_⟩⟩
      · exact iv_01_iff (hJ.2 f g f0 f6 g0 g6) ((iv_cp_s v0).trans ⟨fun q => q.resolve_right (fun z => hc z.1), Or.inl⟩)
      · have hcc := hca v v0 v1 hc
        refine ⟨by omega, ih _ ⟨fr_sm hJ.1 (by decide), fun f g f0 f6 g0 g6 => ?_⟩⟩
        refine iv_01_iff (iv_01_or (hJ.2 f g f0 f6 g0 g6) (q := σ.2 16 v = f ∧ σ.2 18 v = g) (y := (fb_sm ρ 21 (6 * σ.2 16 v + σ.2 18 v) 1).2 21 (6 * f + g)) (fun q => ?_) (fun q => ?_)) ((iv_cp_s v0).trans (or_congr Iff.rfl ⟨fun z => z.2, fun z => ⟨hc, z⟩⟩))
        · rw [fb_at, if_pos (by omega)]
        · rw [fb_at, if_neg (by omega)]
    · intro ρ hJ
      have e42 : ρ.1 42 = σ.1 42 := hJ.1.1 42 (by simp)
      apply Fr_gatherCalls_b26
      rw [e42]
      exact ⟨by omega, by omega, fun _ => h ρ hJ.1 hJ.2, fun h => by omega⟩
/-- the reference's matrix of calls -/
theorem cm_called {E : fb_E} {σ : fb_S} {Q : Int → fb_S → Prop} (hP : iv_P σ) (h1 : iv_ca σ → ∀ τ, fr_a [48] [] σ τ → (∀ f g, 0 ≤ f → f < 6 → 0 ≤ g → g < 6 → iv_01 (iv_cp σ (σ.1 42) f g) (τ.2 48 (6 * f + g))) → Q 1 τ) (h0 : ¬ iv_ca σ → ∀ τ, fr_a [48] [] σ τ → Q 0 τ) : fb_V E fb_Mo_called 0 [.inr 5, .inr 999, .inr 999] [] σ Q := by
  have hok : fr_ok [48] [] := by unfold fr_ok; simp
  obtain ⟨hA, hB, hC, hD, hG, hF, hE⟩ := id hP
  unfold iv_A at hA
  unfold iv_D at hD
  apply Mo_called_b0
  have clr := lp_st (P := fun v τ => fb_V E fb_Mo_called 2 [.inr 5, .inl v, .inr 999] [] τ Q) (I := fun v τ => fr_a [48] [] σ τ ∧ ∀ j, 0 ≤ j → j < v → τ.2 48 j = 0) (N := 36) ?_ ?_
  · exact clr 0 σ (by omega) (by omega) ⟨fr_rf _ _ _, fun j j0 j1 => by omega⟩
  · intro v τ v0 v1 hI ih
    apply Mo_called_b2
    refine ⟨by omega, fun h => by omega, fun _ => ⟨by omega, ih _ ⟨fr_sm hI.1 (by decide), fun j j0 j1 => ?_⟩⟩⟩
    rw [fb_at]
    split
    · rfl
    · exact hI.2 j j0 (by omega)
  · intro τ hI
    apply Mo_called_b2
    refine ⟨by omega, fun _ => ?_, fun h => by omega⟩
    have outer := lp_st (P := fun v τ => fb_V E fb_Mo_called 23 [.inr 5, .inl v, .inr 999] [] τ Q) (I := fun v τ => ∃ n, (v < σ.1 41 → n = σ.2 14 v) ∧ (v = σ.1 41 → n = σ.1 42) ∧ fr_a [48] [] σ τ ∧ (∀ k, 0 ≤ k → k < n → iv_ck σ k) ∧ ∀ f g, 0 ≤ f → f < 6 → 0 ≤ g → g < 6 → iv_01 (iv_cp σ n f g) (τ.2 48 (6 * f + g))) (N := σ.1 41) ?_ ?_
    · refine outer 0 τ (by omega) (by omega) ⟨0, fun q => (hD.2.1 q).symm, fun q => (hD.1 q.symm).symm, hI.1, fun k k0 k1 => by omega, fun f g f0 f6 g0 g6 => ⟨fun ⟨k, k0, k1, _⟩ => by omega, fun _ => hI.2 _ (by omega) (by omega)⟩⟩
    · intro f ρ f0 f1 hJ ih
      obtain ⟨n, n1, -, hfr, hck, hcp⟩ := hJ
      have hn := n1 f1
      subst hn
      have e160 : ρ.1 160 = σ.1 41 := (hfr.1 160 (by simp)).trans hA.2.2.1
      apply Mo_called_b23
      rw [e160]
      refine ⟨by omega, by omega, fun h => by omega, fun _ => ?_⟩
      have hb := hB f f0 (by omega)
      have hg := hG f f0 f1
      have inner := lp_st (P := fun i τ => fb_V E fb_Mo_called 36 [.inr 5, .inl f, .inl (24 * f + i)] [] τ Q) (I := fun i τ => fr_a [48] [] σ τ ∧ (∀ k, 0 ≤ k → k < σ.2 14 f + i → iv_ck σ k) ∧ ∀ f' g, 0 ≤ f' → f' < 6 → 0 ≤ g → g < 6 → iv_01 (iv_cp σ (σ.2 14 f + i) f' g) (τ.2 48 (6 * f' + g))) (N := σ.2 15 f) ?_ ?_
      · have := inner 0 ρ (by omega) (by omega) ⟨hfr, by rw [Int.add_zero]; exact hck, by rw [Int.add_zero]; exact hcp⟩
        rw [Int.add_zero] at this
        exact this
      · intro i ρ2 i0 i1 hK ih2
        have hk := iv_fk hP f0 f1 i0 i1
        have hkk := iv_k hP hk.1.1 hk.1.2
        have ho := hkk.2.2.2.1.1
        have ha := hkk.2.2.2.1.2.1
        have e41 := fr_p2 hok hK.1 (a := 41) (by omega)
        have e43 := fr_p2 hok hK.1 (a := 43) (by omega)
        have e44 := fr_p2 hok hK.1 (a := 44) (by omega)
        have e160' : ρ2.1 160 = σ.1 41 := (hK.1.1 160 (by simp)).trans hA.2.2.1
        have nxt : iv_ck σ (σ.2 14 f + i) → ∀ τ', fr_a [48] [] σ τ' → (∀ f' g, 0 ≤ f' → f' < 6 → 0 ≤ g → g < 6 → iv_01 (iv_cp σ (σ.2 14 f + i + 1) f' g) (τ'.2 48 (6 * f' + g))) → fb_V E fb_Mo_called 36 [.inr 5, .inl f, .inl (24 * f + i + 1)] [] τ' Q := by
          intro hc τ' hfr' hcp'
          rw [show 24 * f + i + 1 = 24 * f + (i + 1) by omega]
          refine ih2 τ' ⟨hfr', fun k k0 k1 => ?_, ?_⟩
          · by_cases e : k = σ.2 14 f + i
            · rw [e]; exact hc
            · exact hK.2.1 k k0 (by omega)
          · rw [show σ.2 14 f + (i + 1) = σ.2 14 f + i + 1 by omega]; exact hcp'
        apply Mo_called_b36
        rw [e41, e43, e44, e160', hb.2.2.2.1, hk.2.2.1, hk.2.2.2.1]
        refine ⟨by omega, by omega, by omega, fun h => by omega, fun _ => ⟨by omega, by omega, fun hc => ⟨ha, fun h2 => h0 (fun q => by have := q _ hk.1.1 hk.1.2 hc; omega) _ hK.1, fun h2 => ⟨by omega, fun h3 => ⟨by omega, nxt (fun _ => by omega) _ (fr_sm hK.1 (by decide)) ?_⟩, fun h3 => h0 (fun q => by have := q _ hk.1.1 hk.1.2 hc; omega) _ hK.1⟩⟩, fun hc => nxt (fun q => absurd q hc) _ hK.1 ?_⟩⟩
        · intro f' g f0' f6' g0 g6
          refine iv_01_iff (iv_01_or (hK.2.2 f' g f0' f6' g0 g6) (q := f = f' ∧ σ.2 18 (σ.2 14 f + i) = g) (y := (fb_sm ρ2 48 (6 * f + σ.2 18 (σ.2 14 f + i)) 1).2 48 (6 * f' + g)) (fun q => ?_) (fun q => ?_)) ((iv_cp_s hk.1.1).trans (or_congr Iff.rfl ⟨fun z => ⟨hk.2.1 ▸ z.2.1, z.2.2⟩, fun z => ⟨hc, hk.2.1.trans z.1, z.2⟩⟩))
          · rw [fb_at, if_pos (by omega)]
          · rw [fb_at, if_neg (by omega)]
        · intro f' g f0' f6' g0 g6
          exact iv_01_iff (hK.2.2 f' g f0' f6' g0 g6) ((iv_cp_s hk.1.1).trans ⟨fun q => q.resolve_right (fun z => hc z.1), Or.inl⟩)
      · intro ρ2 hK
        have e41 := fr_p2 hok hK.1 (a := 41) (by omega)
        apply Mo_called_b36
        rw [e41, hb.2.2.2.1]
        refine ⟨by omega, by omega, by omega, fun _ => ih _ ⟨σ.2 14 f + σ.2 15 f, fun q => ?_, fun q => ?_, hK⟩, fun h => by omega⟩
        · exact (hD.2.2.1 f f0 q).symm
        · have := hD.2.2.2 (by omega)
          rw [show σ.1 41 - 1 = f by omega] at this
          exact this.symm
    · intro ρ hJ
      obtain ⟨n, -, n2, hfr, hck, hcp⟩ := hJ
      have hn := n2 rfl
      subst hn
      have e160 : ρ.1 160 = σ.1 41 := (hfr.1 160 (by simp)).trans hA.2.2.1
      apply Mo_called_b23
      rw [e160]
      exact ⟨by omega, by omega, fun _ => h1 hck ρ hfr hcp, fun h => by omega⟩
