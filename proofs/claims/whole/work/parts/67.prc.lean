/-! compile: one side behind the other -/
section PRC
variable {E : fb_E} {σ τ : fb_S}
theorem iv_rec_fr {A G : List Nat} (hok : fr_ok A G) (h : fr_a A G σ τ) : iv_rec τ ↔ iv_rec σ := by
  unfold iv_rec
  rw [iv_c_fr hok h]
theorem iv_fit_fr {A G : List Nat} (hok : fr_ok A G) (h : fr_a A G σ τ) (h6 : σ.1 41 ≤ 6) : iv_fit τ ↔ iv_fit σ := by
  unfold iv_fit
  rw [h.1 41 hok.2.1, iv_bs_fr hok h]
  constructor
  · intro q f f0 f1
    have := q f f0 f1
    rw [iv_fs_fr hok h (by omega)] at this
    exact this
  · intro q f f0 f1
    rw [iv_fs_fr hok h (by omega)]
    exact q f f0 f1
theorem iv_good_fr {A G : List Nat} (hok : fr_ok A G) (h : fr_a A G σ τ) (h6 : σ.1 41 ≤ 6) : iv_good τ ↔ iv_good σ := by
  unfold iv_good
  rw [iv_wh_fr hok h, iv_ta_fr hok h, iv_ca_fr hok h, iv_rec_fr hok h, iv_fit_fr hok h h6]
theorem pg_fr {A G : List Nat} (hok : fr_ok A G) (h : fr_a A G σ τ) : pg σ τ := (pg_rf σ).fr hok h
def iv_rg (σ : fb_S) : Prop := (∀ j, 0 ≤ j → j < 60 → 0 ≤ σ.2 33 j ∧ σ.2 33 j < 65536) ∧ (∀ j, 0 ≤ j → j < 144 → 0 ≤ σ.2 50 j ∧ σ.2 50 j < 65536)
def iv_nor (σ : fb_S) : Prop := σ.1 133 = -1 ∧ σ.1 134 = 0 ∧ σ.1 135 = 0 ∧ σ.1 182 = 0
/-- the code, as both have it -/
def cd (π : fb_S) (n : Nat) (σ : fb_S) : Prop := iv_P π ∧ iv_good π ∧ pg π σ ∧ ly_n π (n + 1) = ly_n π n ∧ as_D π (ly_n π n) σ ∧ mo_D π (ly_n π n) σ ∧ iv_Fr π σ ∧ (∀ x, 0 ≤ x → x < 6 → σ.2 47 x = iv_bs π x) ∧ ly_a π (ly_n π n) (π.1 42) ≤ 500
def iv_cd (σ : fb_S) : Prop := (∃ π n, cd π n σ) ∧ σ.1 4 = 1 ∧ σ.1 169 = 1
theorem iv_okC : fr_ok iv_XC [] := by unfold fr_ok iv_XC; simp
theorem iv_okM : fr_ok iv_XM [] := by unfold fr_ok iv_XM; simp
theorem iv_okG : fr_ok [] iv_GM := by unfold fr_ok iv_GM; simp
theorem pr_compile {Q : Int → Int → fb_S → Prop} (hP : iv_P σ) (hr : iv_rg σ) (h : ∀ r τ, iv_P τ → iv_rg τ → (iv_idle τ ∨ (iv_cd τ ∧ iv_nor τ)) → Q r r τ) : fb_V E fb_Fb_compile 0 [.inr 0, .inr 999] [] σ (fun r s => fb_V E fb_Mo_compile 0 [.inr 5, .inr 999] [] s (fun r2 s2 => Q r r2 s2)) := by
  have hA := hP.1
  unfold iv_A at hA
  apply Fb_compile_b0
  apply ct_dropCode
  have okD : fr_ok [] [4, 133, 134, 135] := by unfold fr_ok; simp
  have frD : fr_a [] [4, 133, 134, 135] σ (iv_drop σ) := fr_sg (fr_sg (fr_sg (fr_sg (fr_rf _ _ _) (by decide)) (by decide)) (by decide)) (by decide)
  generalize hπ : iv_drop σ = π at *
  have d4 : π.1 4 = 0 := by rw [← hπ]; rfl
  have dn : π.1 133 = -1 ∧ π.1 134 = 0 ∧ π.1 135 = 0 := by rw [← hπ]; exact ⟨rfl, rfl, rfl⟩
  have hPπ : iv_P π := fr_P okD frD hP
  have hrπ : iv_rg π := by
    unfold iv_rg
    rw [frD.2 33 (by simp), frD.2 50 (by simp)]
    exact hr
  have h41 : π.1 41 ≤ 6 := by rw [frD.1 41 (by simp)]; omega
  -- where the class's answer is a fault
  have bad : ∀ s, fr_a iv_XC [] π s → (¬ iv_wh π → ¬ iv_good π) → ∀ r : Int, r = (1 : Int) ∧ ¬ iv_wh π ∨ r = 2 ∧ iv_wh π ∧ ¬ iv_ta π ∨ r = 3 ∧ iv_wh π ∧ iv_ta π ∧ ¬ iv_ca π ∨ r = 4 ∧ iv_wh π ∧ iv_ta π ∧ iv_ca π ∧ iv_rec π ∨ r = 5 ∧ iv_wh π ∧ iv_ta π ∧ iv_ca π ∧ ¬ iv_rec π ∧ ¬ iv_fit π → fb_V E fb_Mo_compile 0 [.inr 5, .inr 999] [] s (fun r2 s2 => Q r r2 s2) := by
    intro s fr _ r hc
    have hPs : iv_P s := fr_P iv_okC fr hPπ
    have w1 := iv_wh_fr iv_okC fr
    have w2 := iv_ta_fr iv_okC fr
    have w3 := iv_ca_fr iv_okC fr
    have w4 := iv_rec_fr iv_okC fr
    have w5 := iv_fit_fr iv_okC fr h41
    have frG : fr_a [] iv_GM s (iv_chg s) := fr_sg (fr_sg (fr_rf _ _ _) (by decide)) (by decide)
    have fin : ∀ τ, fr_a iv_XM [] (iv_chg s) τ → Q r r τ := by
      intro τ f2
      refine h r τ (fr_P iv_okM f2 (fr_P iv_okG frG hPs)) ⟨?_, ?_⟩ (Or.inl ⟨?_, ?_, ?_, ?_, ?_, ?_⟩)
      · rw [f2.2 33 (by decide), frG.2 33 (by simp), fr.2 33 (by decide)]; exact hrπ.1
      · rw [f2.2 50 (by decide), frG.2 50 (by simp), fr.2 50 (by decide)]; exact hrπ.2
      · rw [f2.1 4 (by simp), frG.1 4 (by decide), fr.1 4 (by simp)]; exact d4
      · rw [f2.1 169 (by simp)]; rfl
      · rw [f2.1 133 (by simp), frG.1 133 (by decide), fr.1 133 (by simp)]; exact dn.1
      · rw [f2.1 134 (by simp), frG.1 134 (by decide), fr.1 134 (by simp)]; exact dn.2.1
      · rw [f2.1 135 (by simp), frG.1 135 (by decide), fr.1 135 (by simp)]; exact dn.2.2
      · rw [f2.1 182 (by simp)]; rfl
    apply cm_front hPs
    · intro n1
      rw [w1] at n1
      have e : r = 1 := by rcases hc with c | c | c | c | c; exact c.1; exact absurd c.2.1 n1; exact absurd c.2.1 n1; exact absurd c.2.1 n1; exact absurd c.2.1 n1
      subst e
      exact fin _ (fr_rf _ _ _)
    · intro y1 n2 τ f2
      rw [w1] at y1
      rw [w2] at n2
      have e : r = 2 := by rcases hc with c | c | c | c | c; exact absurd y1 c.2; exact c.1; exact absurd c.2.2.1 n2; exact absurd c.2.2.1 n2; exact absurd c.2.2.1 n2
      subst e
      exact fin τ f2
    · intro y1 y2 n3 τ f2
      rw [w1] at y1
      rw [w2] at y2
      rw [w3] at n3
      have e : r = 3 := by rcases hc with c | c | c | c | c; exact absurd y1 c.2; exact absurd y2 c.2.2; exact c.1; exact absurd c.2.2.2.1 n3; exact absurd c.2.2.2.1 n3
      subst e
      exact fin τ f2
    · intro y1 y2 y3 y4 τ f2
      rw [w1] at y1
      rw [w2] at y2
      rw [w3] at y3
      rw [w4] at y4
      have e : r = 4 := by rcases hc with c | c | c | c | c; exact absurd y1 c.2; exact absurd y2 c.2.2; exact absurd y3 c.2.2.2; exact c.1; exact absurd y4 c.2.2.2.2.1
      subst e
      exact fin τ f2
    · intro y1 y2 y3 n4 n5 τ f2
      rw [w1] at y1
      rw [w2] at y2
      rw [w3] at y3
      rw [w4] at n4
      rw [w5] at n5
      have e : r = 5 := by rcases hc with c | c | c | c | c; exact absurd y1 c.2; exact absurd y2 c.2.2; exact absurd y3 c.2.2.2; exact absurd c.2.2.2.2 n4; exact c.1
      subst e
      exact fin τ f2
    · intro hgd
      rw [iv_good_fr iv_okC fr h41] at hgd
      exfalso
      obtain ⟨y1, y2, y3, y4, y5⟩ := hgd
      rcases hc with c | c | c | c | c
      · exact c.2 y1
      · exact c.2.2 y2
      · exact c.2.2.2 y3
      · exact y4 c.2.2.2.2
      · exact c.2.2.2.2.2 y5
  have frs : fr_a iv_XC [] π π := fr_rf _ _ _
  apply ct_fault hPπ
  · intro n1
    exact ⟨by omega, fun q => absurd q (by decide), fun _ => bad π frs (fun q g => q g.1) 1 (Or.inl ⟨rfl, n1⟩)⟩
  · intro y1 n2
    exact ⟨by omega, fun q => absurd q (by decide), fun _ => bad π frs (fun q g => q g.1) 2 (Or.inr (Or.inl ⟨rfl, y1, n2⟩))⟩
  · intro y1 y2 n3
    exact ⟨by omega, fun q => absurd q (by decide), fun _ => bad π frs (fun q g => q g.1) 3 (Or.inr (Or.inr (Or.inl ⟨rfl, y1, y2, n3⟩)))⟩
  · intro y1 y2 y3 y4 s fr
    exact ⟨by omega, fun q => absurd q (by decide), fun _ => bad s fr (fun q g => q g.1) 4 (Or.inr (Or.inr (Or.inr (Or.inl ⟨rfl, y1, y2, y3, y4⟩))))⟩
  · intro y1 y2 y3 n4 n5 s fr
    exact ⟨by omega, fun q => absurd q (by decide), fun _ => bad s fr (fun q g => q g.1) 5 (Or.inr (Or.inr (Or.inr (Or.inr ⟨rfl, y1, y2, y3, n4, n5⟩))))⟩
  · intro hg s fr hF
    refine ⟨by omega, fun _ => ?_, fun q => absurd rfl q⟩
    have g0 : pg π s := pg_fr iv_okC fr
    apply ct_assemble hPπ hg g0 hF (by rw [fr.2 33 (by decide)]; exact hrπ.1)
    intro ρ n frA hfx hD
    have gρ : pg π ρ := g0.fr as_okX frA
    have hab := ly_a_b (π := π) (L := ly_n π n) (k := π.1 42) (by have := hPπ.1; unfold iv_A at this; omega)
    have h42 : π.1 42 ≤ 60 := by have := hPπ.1; unfold iv_A at this; omega
    have hFρ : iv_Fr π ρ := iv_Fr_fr hF frA (by simp) h41
    have sc : ∀ k : Nat, k ∉ as_GX → ρ.1 k = π.1 k := fun k hk => by rw [frA.1 k hk, fr.1 k (by simp)]
    -- the reference behind it, from the state s' (the class's answer is in)
    have ref : ∀ (s' : fb_S) (r : Int), s'.2 = ρ.2 → (∀ k : Nat, k ≠ 4 → s'.1 k = ρ.1 k) → ((r = 6 ∧ s'.1 4 = 0 ∧ 500 < ρ.1 104) ∨ (r = 0 ∧ s'.1 4 = 1 ∧ ρ.1 104 ≤ 500)) → fb_V E fb_Mo_compile 0 [.inr 5, .inr 999] [] s' (fun r2 s2 => Q r r2 s2) := by
      intro s' r e2 e1 hc
      have frS : fr_a (iv_XC ++ as_CX) (4 :: as_GX) π s' := by
        refine ⟨fun k hk => ?_, fun a ha => ?_⟩
        · rw [e1 k (fun e => hk (by rw [e]; simp))]
          exact sc k (fun q => hk (List.mem_cons_of_mem _ q))
        · rw [e2, frA.2 a (fun q => ha (List.mem_append_right _ q)), fr.2 a (fun q => ha (List.mem_append_left _ q))]
      have okS : fr_ok (iv_XC ++ as_CX) (4 :: as_GX) := by unfold fr_ok iv_XC; simp
      have hPs : iv_P s' := fr_P okS frS hPπ
      have gs : pg π s' := pg_fr okS frS
      have hgs : iv_good s' := (iv_good_fr okS frS h41).mpr hg
      have frG : fr_a [] iv_GM s' (iv_chg s') := fr_sg (fr_sg (fr_rf _ _ _) (by decide)) (by decide)
      apply cm_front hPs
      · exact fun n1 => absurd hgs.1 n1
      · exact fun _ n2 => absurd hgs.2.1 n2
      · exact fun _ _ n3 => absurd hgs.2.2.1 n3
      · exact fun _ _ _ y4 => absurd y4 hgs.2.2.2.1
      · exact fun _ _ _ _ n5 => absurd hgs.2.2.2.2 n5
      · intro _ τ f2 hM
        have gc : pg π τ := (gs.fr iv_okG frG).fr iv_okM f2
        have h47 : ∀ x, 0 ≤ x → x < 6 → τ.2 47 x = iv_bs π x := by
          rw [← iv_bs_fr okS frS]; exact hM.1
        have h51 : ∀ f g, 0 ≤ f → f < 6 → 0 ≤ g → g < 24 → iv_01 (iv_gp π (π.1 42) f g) (τ.2 51 (24 * f + g)) := by
          intro f g f0 f6 g0 g6
          have := hM.2 f g f0 f6 g0 g6
          rw [gs.2.2.1] at this
          exact iv_01_of this (iv_gp_fr okS frS _ _ _)
        have t2 : ∀ a, a ∉ iv_XM → τ.2 a = ρ.2 a := fun a ha => by rw [f2.2 a ha, ← e2]; rfl
        have t1 : ∀ k : Nat, k ≠ 4 → k ∉ iv_GM → τ.1 k = ρ.1 k := fun k hk hk2 => by rw [f2.1 k (by simp), frG.1 k hk2, e1 k hk]
        have t4 : τ.1 4 = s'.1 4 := by rw [f2.1 4 (by simp), frG.1 4 (by decide)]
        apply mo_cmp51 hPπ hg gc h47 h51 (by rw [t2 50 (by decide), frA.2 50 (by simp), fr.2 50 (by decide)]; exact hrπ.2)
        intro ρ2 m frM hfx2 hMD
        have eL := ly_n_uniq hfx hfx2
        rw [← eL] at hMD
        have u1 : ∀ k : Nat, k ∉ mo_GX → ρ2.1 k = τ.1 k := fun k hk => frM.1 k hk
        have u2 : ∀ a, a ∉ mo_CX → ρ2.2 a = τ.2 a := fun a ha => frM.2 a ha
        have hsz : ρ2.1 173 = ρ.1 104 := by rw [hMD.1, hD.1]
        -- the last state
        have endP : ∀ x : Int, iv_P (fb_sg ρ2 169 x) ∧ iv_rg (fb_sg ρ2 169 x) ∧ iv_nor (fb_sg ρ2 169 x) ∧ (fb_sg ρ2 169 x).1 4 = s'.1 4 := by
          intro x
          have okE : fr_ok mo_CX (169 :: mo_GX) := by unfold fr_ok; simp
          have frE : fr_a mo_CX (169 :: mo_GX) τ (fb_sg ρ2 169 x) := fr_sg (fr_up frM (by simp) (by simp)) (by simp)
          refine ⟨(gc.fr okE frE).P hPπ, ⟨?_, ?_⟩, ⟨?_, ?_, ?_, ?_⟩, ?_⟩
          · rw [frE.2 33 (by simp), t2 33 (by decide)]; exact hD.2.2.2.1
          · exact hMD.2.2.2.1
          · rw [frE.1 133 (by simp), t1 133 (by decide) (by decide), sc 133 (by simp)]; exact dn.1
          · rw [frE.1 134 (by simp), t1 134 (by decide) (by decide), sc 134 (by simp)]; exact dn.2.1
          · rw [frE.1 135 (by simp), t1 135 (by decide) (by decide), sc 135 (by simp)]; exact dn.2.2
          · rw [frE.1 182 (by simp), f2.1 182 (by simp)]; rfl
          · rw [frE.1 4 (by simp), t4]
        refine ⟨fun q => ?_, fun q => ?_⟩
        · have e6 : r = 6 ∧ s'.1 4 = 0 := by rcases hc with c | c; exact ⟨c.1, c.2.1⟩; omega
          have hE := endP 0
          rw [e6.1]
          exact h 6 _ hE.1 hE.2.1 (Or.inl ⟨by rw [hE.2.2.2]; exact e6.2, rfl, hE.2.2.1.1, hE.2.2.1.2.1, hE.2.2.1.2.2.1, hE.2.2.1.2.2.2⟩)
        · have e0 : r = 0 ∧ s'.1 4 = 1 := by rcases hc with c | c; omega; exact ⟨c.1, c.2.1⟩
          have hE := endP 1
          rw [e0.1]
          have okE : fr_ok mo_CX (169 :: mo_GX) := by unfold fr_ok; simp
          have frE : fr_a mo_CX (169 :: mo_GX) τ (fb_sg ρ2 169 1) := fr_sg (fr_up frM (by simp) (by simp)) (by simp)
          refine h 0 _ hE.1 hE.2.1 (Or.inr ⟨⟨⟨π, n, hPπ, hg, gc.fr okE frE, hfx, ?_, hMD, ?_, ?_, by rw [← hMD.1]; omega⟩, by rw [hE.2.2.2]; exact e0.2, rfl⟩, hE.2.2.1⟩)
          · obtain ⟨a1, a2, a3, a4, a5, a6, a7⟩ := hD
            refine ⟨?_, ?_, ?_, ?_, ?_, ?_, ?_⟩
            · rw [frE.1 104 (by simp), t1 104 (by decide) (by decide)]; exact a1
            · rw [frE.1 105 (by simp), t1 105 (by decide) (by decide)]; exact a2
            · rw [frE.2 33 (by simp), t2 33 (by decide)]; exact a3
            · rw [frE.2 33 (by simp), t2 33 (by decide)]; exact a4
            · rw [frE.2 31 (by simp), t2 31 (by decide)]; exact a5
            · rw [frE.2 32 (by simp), t2 32 (by decide)]; exact a6
            · rw [frE.2 32 (by simp), t2 32 (by decide)]; exact a7
          · refine iv_Fr_fr (A := iv_XM ++ mo_CX) (G := 4 :: 169 :: 182 :: mo_GX) hFρ ⟨fun k hk => ?_, fun a ha => ?_⟩ (by unfold iv_XM; simp) h41
            · rw [frE.1 k (fun q => hk (by simp at q ⊢; omega)), t1 k (fun e => hk (by simp [e])) (fun q => hk (by unfold iv_GM at q; simp at q ⊢; omega))]
            · rw [frE.2 a (fun q => ha (List.mem_append_right _ q)), t2 a (fun q => ha (List.mem_append_left _ q))]
          · rw [frE.2 47 (by simp)]; exact h47
    have h104 : 0 ≤ ρ.1 104 ∧ ρ.1 104 ≤ 1620 := by rw [hD.1]; omega
    have h4 : ρ.1 4 = 0 := by rw [sc 4 (by simp)]; exact d4
    refine ⟨by omega, fun q => ref (fb_sg ρ 4 1) 0 rfl (fun k hk => by rw [fb_sg1, if_neg hk]) (Or.inr ⟨rfl, rfl, q⟩), fun q => ref ρ 6 rfl (fun k _ => rfl) (Or.inl ⟨rfl, h4, by omega⟩)⟩
end PRC
