/-! frames: sizes, bases, places -/
/-- the sizes of the first n variables of f, summed up -/
def iv_ps (σ : fb_S) (f : Int) : Nat → Int
  | 0 => 0
  | n + 1 => iv_ps σ f n + σ.2 (7 + f.toNat) (n : Int)
abbrev iv_fs (σ : fb_S) (f : Int) : Int := iv_ps σ f (σ.2 13 f).toNat
theorem iv_ps_in {σ : fb_S} (hP : iv_P σ) {f : Int} (f0 : 0 ≤ f) (f6 : f < 6) : ∀ n : Nat, (n : Int) ≤ σ.2 13 f → (n : Int) ≤ iv_ps σ f n ∧ iv_ps σ f n ≤ 8 * n
  | 0, _ => by simp [iv_ps]
  | n + 1, h => by
    have ih := iv_ps_in hP f0 f6 n (by omega)
    have := hP.2.2.1 f n f0 f6 (by omega) (by omega)
    simp only [iv_ps]
    omega
theorem iv_fs_in {σ : fb_S} (hP : iv_P σ) {f : Int} (f0 : 0 ≤ f) (f6 : f < 6) : 0 ≤ iv_fs σ f ∧ iv_fs σ f ≤ 48 := by
  have hb := hP.2.1 f f0 f6
  have := iv_ps_in hP f0 f6 (σ.2 13 f).toNat (by omega)
  unfold iv_fs
  omega
theorem iv_ps_s {σ : fb_S} {f v : Int} (v0 : 0 ≤ v) : iv_ps σ f (v + 1).toNat = iv_ps σ f v.toNat + σ.2 (7 + f.toNat) v := by
  rw [show (v + 1).toNat = v.toNat + 1 by omega]
  simp only [iv_ps]
  rw [show ((v.toNat : Nat) : Int) = v by omega]
theorem iv_ps_fr {A G : List Nat} (hok : fr_ok A G) {σ τ : fb_S} (h : fr_a A G σ τ) {f : Int} (f6 : f < 6) : ∀ n : Nat, iv_ps τ f n = iv_ps σ f n
  | 0 => rfl
  | n + 1 => by
    simp only [iv_ps]
    rw [iv_ps_fr hok h f6 n, fr_p2 hok h (a := 7 + f.toNat) (by omega)]
theorem iv_fs_fr {A G : List Nat} (hok : fr_ok A G) {σ τ : fb_S} (h : fr_a A G σ τ) {f : Int} (f6 : f < 6) : iv_fs τ f = iv_fs σ f := by
  unfold iv_fs
  rw [iv_ps_fr hok h f6, fr_p2 hok h (a := 13) (by omega)]
theorem ct_frameSizeOf {E : fb_E} {σ : fb_S} {Q : Int → fb_S → Prop} (hP : iv_P σ) (f : Int) (f0 : 0 ≤ f) (f6 : f < 6) (h : Q (iv_fs σ f) σ) : fb_V E fb_Pr_frameSizeOf 0 [.inr 1, .inl f, .inr 999, .inr 999] [] σ Q := by
  have hb := hP.2.1 f f0 f6
  apply Pr_frameSizeOf_b0
  have lp := lp_up (P := fun v => fb_V E fb_Pr_frameSizeOf 4 [.inr 1, .inl f, .inl (iv_ps σ f v.toNat), .inl v] [] σ Q) (N := σ.2 13 f) ?_ ?_
  · exact lp 0 (by omega) (by omega)
  · intro v v0 v1 ih
    apply Pr_frameSizeOf_b4
    rw [iv_ps_s v0] at ih
    exact ⟨by omega, by omega, by omega, fun h => by omega, fun _ => ⟨by omega, ih⟩⟩
  · apply Pr_frameSizeOf_b4
    exact ⟨by omega, by omega, by omega, fun _ => h, fun h => by omega⟩
theorem ct_endOf {E : fb_E} {σ : fb_S} {Q : Int → fb_S → Prop} (hP : iv_P σ) (f : Int) (f0 : 0 ≤ f) (f6 : f < 6) (h : Q (σ.2 23 f + iv_fs σ f) σ) : fb_V E fb_Fr_endOf 0 [.inr 2, .inl f] [] σ Q := by
  apply Fr_endOf_b0
  exact ⟨by omega, ct_frameSizeOf hP f f0 f6 h⟩
theorem cm_end {E : fb_E} {σ : fb_S} {Q : Int → fb_S → Prop} (hP : iv_P σ) (f : Int) (f0 : 0 ≤ f) (f6 : f < 6) (h : Q (σ.2 47 f + iv_fs σ f) σ) : fb_V E fb_Mo_end 0 [.inr 5, .inl f, .inr 999, .inr 999] [] σ Q := by
  have hb := hP.2.1 f f0 f6
  apply Mo_end_b0
  refine ⟨by omega, ?_⟩
  have lp := lp_up (P := fun v => fb_V E fb_Mo_end 9 [.inr 5, .inl f, .inl (σ.2 47 f + iv_ps σ f v.toNat), .inl v] [] σ Q) (N := σ.2 13 f) ?_ ?_
  · have := lp 0 (by omega) (by omega)
    simp only [iv_ps, Int.toNat_zero, Int.add_zero] at this
    exact this
  · intro v v0 v1 ih
    apply Mo_end_b9
    rw [iv_ps_s v0, ← Int.add_assoc] at ih
    rw [hb.2.1, (hP.2.2.1 f v f0 f6 v0 v1).2]
    exact ⟨by omega, by omega, by omega, fun h => by omega, fun _ => ⟨by omega, ih⟩⟩
  · apply Mo_end_b9
    rw [hb.2.1]
    exact ⟨by omega, by omega, by omega, fun _ => h, fun h => by omega⟩
theorem cm_place {E : fb_E} {σ : fb_S} {Q : Int → fb_S → Prop} (hP : iv_P σ) (f v : Int) (f0 : 0 ≤ f) (f6 : f < 6) (v0 : 0 ≤ v) (v1 : v ≤ σ.2 13 f) (h : Q (σ.2 47 f + iv_ps σ f v.toNat) σ) : fb_V E fb_Mo_place 0 [.inr 5, .inl f, .inl v, .inr 999, .inr 999] [] σ Q := by
  have hb := hP.2.1 f f0 f6
  apply Mo_place_b0
  refine ⟨by omega, ?_⟩
  have lp := lp_up (P := fun u => fb_V E fb_Mo_place 10 [.inr 5, .inl f, .inl v, .inl (σ.2 47 f + iv_ps σ f u.toNat), .inl u] [] σ Q) (N := v) ?_ ?_
  · have := lp 0 (by omega) (by omega)
    simp only [iv_ps, Int.toNat_zero, Int.add_zero] at this
    exact this
  · intro u u0 u1 ih
    apply Mo_place_b10
    rw [iv_ps_s u0, ← Int.add_assoc] at ih
    rw [(hP.2.2.1 f u f0 f6 u0 (by omega)).2]
    exact ⟨by omega, by omega, fun h => by omega, fun _ => ⟨by omega, ih⟩⟩
  · apply Mo_place_b10
    exact ⟨by omega, by omega, fun _ => h, fun h => by omega⟩
/-! bases: both sides do the same steps -/
def bs_1 (C F : Int → Int) (k : Int) (B : Int → Int) : Int → Int := if ¬ C k = 0 ∧ 0 < k % 6 ∧ B (k % 6) < B (k / 6) + F (k / 6) then (fun x => if x = k % 6 then B (k / 6) + F (k / 6) else B x) else B
def bs_n (C F : Int → Int) : Nat → Int → Int
  | 0 => fun _ => 0
  | n + 1 => bs_1 C F ((n % 36 : Nat) : Int) (bs_n C F n)
theorem bs_n_in {C F : Int → Int} (hF : ∀ f, 0 ≤ f → f < 6 → 0 ≤ F f ∧ F f ≤ 48) : ∀ n x, 0 ≤ bs_n C F n x ∧ bs_n C F n x ≤ 48 * n
  | 0, x => by simp [bs_n]
  | n + 1, x => by
    have ih := bs_n_in (C := C) hF n
    simp only [bs_n, bs_1]
    have h1 := ih x
    have h2 := ih (((n % 36 : Nat) : Int) / 6)
    have h3 := hF (((n % 36 : Nat) : Int) / 6) (by omega) (by omega)
    split
    · show 0 ≤ (if x = ((n % 36 : Nat) : Int) % 6 then _ else _) ∧ (if x = ((n % 36 : Nat) : Int) % 6 then _ else _) ≤ _
      split <;> omega
    · omega
theorem bs_n_eq {C F C' F' : Int → Int} (hC : ∀ k, 0 ≤ k → k < 36 → C k = C' k) (hF : ∀ f, 0 ≤ f → f < 6 → F f = F' f) : ∀ n, bs_n C F n = bs_n C' F' n
  | 0 => rfl
  | n + 1 => by
    simp only [bs_n, bs_1]
    rw [bs_n_eq hC hF n, hC _ (by omega) (by omega), hF (((n % 36 : Nat) : Int) / 6) (by omega) (by omega)]
/-- steps that do nothing -/
theorem bs_skip {C F : Int → Int} {n : Nat} (h : C ((n % 36 : Nat) : Int) = 0 ∨ ((n % 36 : Nat) : Int) % 6 = 0) : bs_n C F (n + 1) = bs_n C F n := by
  simp only [bs_n, bs_1]
  rw [if_neg (by omega)]
theorem bs_s (C F : Int → Int) (n : Nat) (x : Int) {f g : Int} (em : ((n % 36 : Nat) : Int) = 6 * f + g) (g0 : 0 ≤ g) (g6 : g < 6) : bs_n C F (n + 1) x = if (¬ C (6 * f + g) = 0 ∧ 0 < g ∧ bs_n C F n g < bs_n C F n f + F f) ∧ x = g then bs_n C F n f + F f else bs_n C F n x := by
  simp only [bs_n, bs_1]
  rw [em, show (6 * f + g) % 6 = g by omega, show (6 * f + g) / 6 = f by omega]
  by_cases h : ¬ C (6 * f + g) = 0 ∧ 0 < g ∧ bs_n C F n g < bs_n C F n f + F f
  · rw [if_pos h]
    show (if x = g then bs_n C F n f + F f else bs_n C F n x) = _
    by_cases e : x = g
    · rw [if_pos e, if_pos ⟨h, e⟩]
    · rw [if_neg e, if_neg (fun z => e z.2)]
  · rw [if_neg h, if_neg (fun z => h z.1)]
theorem ct_findBases {E : fb_E} {σ : fb_S} {Q : Int → fb_S → Prop} (hP : iv_P σ) (hC01 : ∀ k, 0 ≤ k → k < 36 → σ.2 21 k = 0 ∨ σ.2 21 k = 1) (hCf : ∀ k, 6 * σ.1 41 ≤ k → k < 36 → σ.2 21 k = 0) (h : ∀ τ, fr_a [23] [] σ τ → (∀ x, 0 ≤ x → x < 6 → τ.2 23 x = bs_n (σ.2 21) (iv_fs σ) 216 x) → Q 0 τ) : fb_V E fb_Fr_findBases 0 [.inr 2, .inr 999, .inr 999] [] σ Q := by
  have hok : fr_ok [23] [] := by unfold fr_ok; simp
  have hA := hP.1
  unfold iv_A at hA
  have hF : ∀ f, 0 ≤ f → f < 6 → 0 ≤ iv_fs σ f ∧ iv_fs σ f ≤ 48 := fun f f0 f6 => iv_fs_in hP f0 f6
  have hB := bs_n_in (C := σ.2 21) hF
  apply Fr_findBases_b0
  apply Ja_fill23_b0
  have clr := lp_st (P := fun v τ => fb_V E fb_Ja_fill 5 [.inr 23, .inl 0, .inl v, .inl 6] [] τ (fun _ s2 => fb_V E fb_Fr_findBases 10 [.inr 2, .inl 0, .inr 999] [] s2 Q)) (I := fun v τ => fr_a [23] [] σ τ ∧ ∀ j, 0 ≤ j → j < v → τ.2 23 j = 0) (N := 6) ?_ ?_
  · exact clr 0 σ (by omega) (by omega) ⟨fr_rf _ _ _, fun j j0 j1 => by omega⟩
  · intro v τ v0 v1 hI ih
    apply Ja_fill23_b5
    refine ⟨by omega, by omega, fun h => by omega, fun _ => ⟨by omega, ih _ ⟨fr_sm hI.1 (by decide), fun j j0 j1 => ?_⟩⟩⟩
    rw [fb_at]
    split
    · rfl
    · exact hI.2 j j0 (by omega)
  · intro τ hI
    apply Ja_fill23_b5
    refine ⟨by omega, by omega, fun _ => ?_, fun h => by omega⟩
    -- rounds
    have rnd := lp_st (P := fun r τ => fb_V E fb_Fr_findBases 10 [.inr 2, .inl r, .inr 999] [] τ Q) (I := fun r τ => fr_a [23] [] σ τ ∧ ∀ x, 0 ≤ x → x < 6 → τ.2 23 x = bs_n (σ.2 21) (iv_fs σ) (36 * r).toNat x) (N := 6) ?_ ?_
    · exact rnd 0 τ (by omega) (by omega) ⟨hI.1, fun x x0 x6 => by rw [hI.2 x x0 x6]; rfl⟩
    · intro r τ r0 r1 hJ ih
      apply Fr_findBases_b10
      refine ⟨by omega, fun h => by omega, fun _ => ?_⟩
      have fun_ := lp_st (P := fun f τ => fb_V E fb_Fr_findBases 18 [.inr 2, .inl r, .inl f] [] τ Q) (I := fun f τ => fr_a [23] [] σ τ ∧ ∀ x, 0 ≤ x → x < 6 → τ.2 23 x = bs_n (σ.2 21) (iv_fs σ) (36 * r + 6 * f).toNat x) (N := σ.1 41) ?_ ?_
      · exact fun_ 0 τ (by omega) (by omega) ⟨hJ.1, by rw [show 36 * r + 6 * 0 = 36 * r by omega]; exact hJ.2⟩
      · intro f τ f0 f1 hK ih2
        have e41 : τ.1 41 = σ.1 41 := hK.1.1 41 (by simp)
        apply Fr_findBases_b18
        rw [e41]
        refine ⟨by omega, by omega, fun h => by omega, fun _ => ?_⟩
        apply Fr_pushCallees_b0
        have cal := lp_st (P := fun g τ => fb_V E fb_Fr_pushCallees 2 [.inr 2, .inl f, .inl (g + 1)] [] τ (fun _ s4 => fb_V E fb_Fr_findBases 18 [.inr 2, .inl r, .inl (f + 1)] [] s4 Q)) (I := fun g τ => fr_a [23] [] σ τ ∧ ∀ x, 0 ≤ x → x < 6 → τ.2 23 x = bs_n (σ.2 21) (iv_fs σ) (36 * r + 6 * f + (g + 1)).toNat x) (N := 5) ?_ ?_
        · refine cal 0 τ (by omega) (by omega) ⟨hK.1, fun x x0 x6 => ?_⟩
          rw [hK.2 x x0 x6, show (36 * r + 6 * f + (0 + 1)).toNat = (36 * r + 6 * f).toNat + 1 by omega, bs_skip (Or.inr (by omega))]
        · intro g τ g0 g1 hL ih3
          have hP2 := fr_P hok hL.1 hP
          have e21 : τ.2 21 = σ.2 21 := hL.1.2 21 (by simp)
          have h01 := hC01 (6 * f + (g + 1)) (by omega) (by omega)
          have en : (36 * r + 6 * f + (g + 1 + 1)).toNat = (36 * r + 6 * f + (g + 1)).toNat + 1 := by omega
          have em : (((36 * r + 6 * f + (g + 1)).toNat % 36 : Nat) : Int) = 6 * f + (g + 1) := by omega
          have efs := iv_fs_fr hok hL.1 (f := f) (by omega)
          have vf := hL.2 f f0 (by omega)
          have vg := hL.2 (g + 1) (by omega) (by omega)
          have bf := hB (36 * r + 6 * f + (g + 1)).toNat f
          have bg := hB (36 * r + 6 * f + (g + 1)).toNat (g + 1)
          have hff := hF f f0 (by omega)
          apply Fr_pushCallees_b2
          rw [e21]
          refine ⟨by omega, fun h => by omega, fun _ => ⟨by omega, by omega, fun q => ih3 _ ⟨hL.1, fun x x0 x6 => ?_⟩, fun q => ⟨by omega, ?_⟩⟩⟩
          · rw [en, bs_skip (Or.inl (by rw [em]; exact q))]
            exact hL.2 x x0 x6
          · apply ct_endOf hP2 f f0 (by omega)
            rw [efs]
            refine ⟨by omega, by omega, ih3 _ ⟨fr_sm hL.1 (by decide), fun x x0 x6 => ?_⟩⟩
            rw [fb_at, en]
            rw [bs_s _ _ _ _ em (by omega) (by omega), vf, vg]
            by_cases ex : x = g + 1
            · rw [if_pos ex]
              by_cases hlt : bs_n (σ.2 21) (iv_fs σ) (36 * r + 6 * f + (g + 1)).toNat (g + 1) < bs_n (σ.2 21) (iv_fs σ) (36 * r + 6 * f + (g + 1)).toNat f + iv_fs σ f
              · rw [if_pos hlt, if_pos ⟨⟨q, by omega, hlt⟩, ex⟩]
              · rw [if_neg hlt, if_neg (fun z => hlt z.1.2.2), ex]
            · rw [if_neg ex, if_neg (fun z => ex z.2)]
              exact hL.2 x x0 x6
        · intro τ hL
          apply Fr_pushCallees_b2
          refine ⟨by omega, fun _ => ih2 _ ⟨hL.1, ?_⟩, fun h => by omega⟩
          rw [show 36 * r + 6 * (f + 1) = 36 * r + 6 * f + (5 + 1) by omega]
          exact hL.2
      · intro τ hK
        have e41 : τ.1 41 = σ.1 41 := hK.1.1 41 (by simp)
        apply Fr_findBases_b18
        rw [e41]
        refine ⟨by omega, by omega, fun _ => ih _ ⟨hK.1, fun x x0 x6 => ?_⟩, fun h => by omega⟩
        rw [hK.2 x x0 x6]
        -- no calls from functions that aren't there
        have skip : ∀ d : Nat, 6 * σ.1 41 + (d : Int) ≤ 36 → bs_n (σ.2 21) (iv_fs σ) ((36 * r + 6 * σ.1 41).toNat + d) = bs_n (σ.2 21) (iv_fs σ) (36 * r + 6 * σ.1 41).toNat := by
          intro d
          induction d with
          | zero => intro _; rfl
          | succ d ihd =>
            intro hd
            rw [← Nat.add_assoc, bs_skip (Or.inl ?_), ihd (by omega)]
            have em : ((((36 * r + 6 * σ.1 41).toNat + d) % 36 : Nat) : Int) = 6 * σ.1 41 + d := by omega
            rw [em]
            exact hCf _ (by omega) (by omega)
        have := skip (36 - 6 * σ.1 41).toNat (by omega)
        rw [show (36 * r + 6 * σ.1 41).toNat + (36 - 6 * σ.1 41).toNat = (36 * (r + 1)).toNat by omega] at this
        rw [this]
    · intro τ hJ
      apply Fr_findBases_b10
      exact ⟨by omega, fun _ => h τ hJ.1 hJ.2, fun h => by omega⟩
