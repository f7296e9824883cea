/-! the class's processor: the items of an instruction -/
def up (d : Int → Int) (o v : Int) : Int → Int := fun j => if j = o then v else d j
theorem up_y (d : Int → Int) (o v : Int) : up d o v o = v := if_pos rfl
theorem up_n {d : Int → Int} {o v j : Int} (h : j ≠ o) : up d o v j = d j := if_neg h
theorem up_sm (α : fb_S) (a : Nat) (i v : Int) : (fb_sm α a i v).2 a = up (α.2 a) i v := by
  funext j
  rw [fb_at]
  rfl
/-- the class's code and labels stand -/
def pk (π : fb_S) (L : Int → Int) (σ : fb_S) : Prop := iv_P π ∧ iv_good π ∧ ly_a π L (π.1 42) ≤ 500 ∧ ly_bt π L 500 (σ.2 31) (π.1 42) ∧ (∀ k, 0 ≤ k → k < π.1 42 → σ.2 32 (ly_a π L k) = kx π k) ∧ (∀ x, 0 ≤ x → x < 500 → (∀ k, 0 ≤ k → k < π.1 42 → ¬ ly_a π L k = x) → σ.2 32 x = -1) ∧ (∀ j, L j = 0 ∨ L j = 1) ∧ ly_st π L = L
/-- where the items l of instruction k end; what is held there -/
noncomputable def pp (π : fb_S) (L : Int → Int) (k : Int) (l : em_I) : Int := ly_a π L k + (em_B (ly_i π L k) l).length
noncomputable def hh (π : fb_S) (L : Int → Int) (k : Int) (l : em_I) : Int := em_H (ly_i π L k) l
/-- A is what is held -/
def hv (d : Int → Int) (a h : Int) : Prop := h < 512 ∧ (0 ≤ h → h < 256 → a = d h) ∧ (256 ≤ h → a = h - 256)
/-- the processor at p, w steps after σ, with data d and so on -/
def pm (σ τ : fb_S) (p w : Int) (d : Int → Int) (a x c z : Int) : Prop := fr_a [37] [134, 136, 137, 138, 139, 140] σ τ ∧ (τ.1 136 = p ∧ τ.1 134 = σ.1 134 + w) ∧ (∀ j, 0 ≤ j → j < 128 → τ.2 37 j = d j ∧ 0 ≤ d j ∧ d j ≤ 255) ∧ (τ.1 137 = a ∧ 0 ≤ a ∧ a ≤ 255) ∧ (τ.1 138 = x ∧ 0 ≤ x ∧ x ≤ 255) ∧ (τ.1 139 = c ∧ 0 ≤ c ∧ c ≤ 1) ∧ (τ.1 140 = z ∧ 0 ≤ z ∧ z ≤ 1)
def pt (S : Int) (π : fb_S) (L : Int → Int) (k : Int) (σ : fb_S) (l : em_I) (τ : fb_S) (s : Int) (d : Int → Int) (a x c z : Int) : Prop := pm σ τ (pp π L k l) (em_W (ly_i π L k) l) d a x c z ∧ hv d a (hh π L k l) ∧ (0 ≤ s ∧ s ≤ S + l.length ∧ S ≤ 20)
def gc (π : fb_S) (L : Int → Int) (k : Int) (σ : fb_S) : Prop := pk π L σ ∧ (0 ≤ k ∧ k < π.1 42) ∧ σ.1 133 = 0
def nl (π : fb_S) (k : Int) (m : em_I) : Prop := k + 1 < π.1 42 ∨ ∃ x ∈ m, ¬ x.1 = 0 ∧ x.1 ≤ 31
/-- from p on, s steps done: at the next instruction it ends -/
def Gz (E : fb_E) (π : fb_S) (L : Int → Int) (k p s : Int) (τ : fb_S) (Q : Int → fb_S → Prop) : Prop := (p = ly_a π L (k + 1) → Q 0 τ) ∧ (p < ly_a π L (k + 1) → Pf E s τ Q)
def Gt (S : Int) (E : fb_E) (π : fb_S) (L : Int → Int) (k : Int) (σ : fb_S) (Q : Int → fb_S → Prop) (l m : em_I) (d : Int → Int) (a x c z : Int) : Prop := ly_c π L k = l ++ m → ∀ τ s, pt S π L k σ l τ s d a x c z → Gz E π L k (pp π L k l) s τ Q
section IT
variable {E : fb_E} {π σ τ : fb_S} {L : Int → Int} {S k s n q a x c z : Int} {d : Int → Int} {l m : em_I} {Q : Int → fb_S → Prop}
theorem pk_add (C : pk π L σ) (k0 : 0 ≤ k) (k1 : k < π.1 42) : 0 ≤ ly_a π L k ∧ ly_a π L k < ly_a π L (k + 1) ∧ ly_a π L (k + 1) ≤ 500 := by
  have h1 := ly_a_lt1 (π := π) (L := L) k0
  have h2 := ly_a_le (π := π) (L := L) (show (0 : Int) ≤ k + 1 by omega) (show k + 1 ≤ π.1 42 by omega)
  have h3 := ly_a_b (π := π) (L := L) k0
  have h4 := C.2.2.1
  exact ⟨h3.1, h1, by omega⟩
theorem pi_cb (C : pk π L σ) (k0 : 0 ≤ k) (k1 : k < π.1 42) {m1 m2 : em_I} (e : ly_c π L k = l ++ (m1 ++ m2)) : cb σ (pp π L k l) (em_B (hh π L k l) m1) ∧ pp π L k (l ++ m1) = pp π L k l + (em_B (hh π L k l) m1).length ∧ pp π L k (l ++ m1) + (em_B (hh π L k (l ++ m1)) m2).length = ly_a π L (k + 1) ∧ ly_a π L k ≤ pp π L k l := by
  have eB : em_B (ly_i π L k) (ly_c π L k) = em_B (ly_i π L k) l ++ (em_B (hh π L k l) m1 ++ em_B (hh π L k (l ++ m1)) m2) := by
    rw [e, em_B_app, em_B_app]
    unfold hh
    rw [em_H_app]
  have es := ly_a_s (π := π) (L := L) k0 (ly_a π L (ly_gi π k)) (ly_b π L k)
  rw [show ly_it π k (ly_a π L (ly_gi π k)) (L k) (ly_b π L k) = ly_c π L k from rfl, eB, List.length_append, List.length_append] at es
  have hl := pk_add C k0 k1
  have e1 : pp π L k (l ++ m1) = pp π L k l + (em_B (hh π L k l) m1).length := by
    unfold pp hh
    rw [em_B_app, List.length_append]
    omega
  have e0 : pp π L k l = ly_a π L k + (em_B (ly_i π L k) l).length := rfl
  refine ⟨?_, e1, by omega, by omega⟩
  intro i b hb
  have hi := (List.getElem?_eq_some_iff.mp hb).1
  have hfull : (em_B (ly_i π L k) (ly_c π L k))[(em_B (ly_i π L k) l).length + i]? = some b := by
    rw [eB, List.getElem?_append_right (by omega), show (em_B (ly_i π L k) l).length + i - (em_B (ly_i π L k) l).length = i by omega, List.getElem?_append_left hi]
    exact hb
  have := C.2.2.2.1 k k0 k1 _ b hfull (by omega)
  rw [show ly_a π L k + (((em_B (ly_i π L k) l).length + i : Nat) : Int) = pp π L k l + i by omega] at this
  exact ⟨by omega, this⟩
theorem lb_no (C : pk π L σ) (k0 : 0 ≤ k) (k1 : k < π.1 42) {p : Int} (h1 : ly_a π L k < p) (h2 : p < ly_a π L (k + 1)) : σ.2 32 p = -1 := by
  have hl := pk_add C k0 k1
  apply C.2.2.2.2.2.1 p (by omega) (by omega)
  intro j j0 j1 ej
  by_cases g : j ≤ k
  · have := ly_a_le (π := π) (L := L) j0 g
    omega
  · have := ly_a_le (π := π) (L := L) (show (0 : Int) ≤ k + 1 by omega) (show k + 1 ≤ j by omega)
    omega
theorem lb_at (C : pk π L σ) (k0 : 0 ≤ k) (k1 : k < π.1 42) : (0 ≤ ly_a π L k ∧ ly_a π L k < 500) ∧ σ.2 32 (ly_a π L k) = kx π k ∧ (0 ≤ kx π k ∧ kx π k < 144) := by
  have hl := pk_add C k0 k1
  exact ⟨by omega, C.2.2.2.2.1 k k0 k1, (kx_in C.1 k0 k1).1⟩
/-- after a step, at p: at an instruction's start it ends -/
def ld (E : fb_E) (π : fb_S) (L : Int → Int) (p s : Int) (τ : fb_S) (Q : Int → fb_S → Prop) : Prop := ∃ j, (0 ≤ j ∧ j < π.1 42) ∧ ((p = ly_a π L j ∧ Q 0 τ) ∨ ((ly_a π L j < p ∧ p < ly_a π L (j + 1)) ∧ Pf E s τ Q))
theorem pf_go (C : pk π L σ) (hs : 0 ≤ s ∧ s < 64) (h : fb_V E fb_Po_step 0 [.inr 4, .inr 999, .inr 999, .inr 999] [] τ (fun _ τ' => ((τ'.1 133 = 1 ∨ τ'.1 133 = 2) ∧ Q 0 τ') ∨ (τ'.1 133 = 0 ∧ τ'.2 32 = σ.2 32 ∧ ld E π L (τ'.1 136) (s + 1) τ' Q))) : Pf E s τ Q := by
  apply pf_step s hs
  refine fb_mono h (fun r τ' hτ => ?_)
  rcases hτ with ⟨t1, t2⟩ | ⟨t1, t2, j, hj, t3⟩
  · exact ⟨by omega, fun _ => t2, fun g => by omega⟩
  · refine ⟨by omega, fun g => absurd t1 g, fun _ => ?_⟩
    rw [t2]
    rcases t3 with ⟨u1, u2⟩ | ⟨u1, u2⟩
    · have lb := lb_at C hj.1 hj.2
      rw [u1, lb.2.1]
      exact ⟨lb.1, by omega, fun g => by omega, fun _ => u2⟩
    · have lb := lb_no C hj.1 hj.2 u1.1 u1.2
      have hl := pk_add C hj.1 hj.2
      rw [lb]
      exact ⟨by omega, by omega, fun _ => u2, fun g => absurd rfl g⟩
theorem lc_len : (ly_c π L k).length ≤ 9 := it_in_len _ _ _ _ _ _ _ _ _ _ _
theorem ld_of (k0 : 0 ≤ k) (k1 : k < π.1 42) {p : Int} (hk : ly_a π L k < p) (hp : p ≤ ly_a π L (k + 1)) (hn : p = ly_a π L (k + 1) → k + 1 < π.1 42) (h : Gz E π L k p s τ Q) : ld E π L p s τ Q := by
  by_cases g : p = ly_a π L (k + 1)
  · exact ⟨k + 1, by have := hn g; omega, Or.inl ⟨g, h.1 g⟩⟩
  · exact ⟨k, by omega, Or.inr ⟨by omega, h.2 (by omega)⟩⟩
theorem em_B_1 (h : Int) (y : Int × Int) : em_B h [y] = em_b h y.1 y.2 := List.append_nil _
theorem em_W_1 (h : Int) (y : Int × Int) (l : em_I) : em_W h (l ++ [y]) = em_W h l + em_w (em_H h l) y.1 y.2 := by
  rw [em_W_app]
  show _ + (em_w _ _ _ + 0) = _
  omega
theorem em_H_1 (h : Int) (y : Int × Int) (l : em_I) : em_H h (l ++ [y]) = em_h (em_H h l) y.1 y.2 := by
  rw [em_H_app]
  rfl
theorem cb_fr {B : List Int} {p : Int} (h : cb σ p B) (e : τ.2 31 = σ.2 31) : cb τ p B := by
  unfold cb
  rw [e]
  exact h
theorem g_one (C : gc π L k σ) {y : Int × Int} (e : ly_c π L k = l ++ (y :: m)) (N : nl π k m) (P : pt S π L k σ l τ s d a x c z) (hb : 0 < (em_b (hh π L k l) y.1 y.2).length) (h : cb τ (pp π L k l) (em_b (hh π L k l) y.1 y.2) → pp π L k (l ++ [y]) = pp π L k l + (em_b (hh π L k l) y.1 y.2).length → fb_V E fb_Po_step 0 [.inr 4, .inr 999, .inr 999, .inr 999] [] τ (fun _ τ' => fr_a [37] [134, 136, 137, 138, 139, 140] σ τ' ∧ τ'.1 136 = pp π L k (l ++ [y]) ∧ Gz E π L k (pp π L k (l ++ [y])) (s + 1) τ' Q)) : Gz E π L k (pp π L k l) s τ Q := by
  obtain ⟨hC, hk, h0⟩ := C
  have hcb := pi_cb hC hk.1 hk.2 (m1 := [y]) (m2 := m) e
  rw [em_B_1] at hcb
  obtain ⟨c1, c2, c3, c4⟩ := hcb
  have hl : l.length ≤ 9 := by
    have := lc_len (π := π) (L := L) (k := k)
    rw [e, List.length_append] at this
    omega
  refine ⟨fun g => by omega, fun _ => ?_⟩
  have hs := P.2.2
  apply pf_go hC (by omega)
  refine fb_mono (h (cb_fr c1 (P.1.1.2 31 (by simp))) c2) (fun r τ' ht => ?_)
  obtain ⟨t1, t2, t3⟩ := ht
  refine Or.inr ⟨(t1.1 133 (by decide)).trans h0, t1.2 32 (by simp), ?_⟩
  rw [t2]
  refine ld_of hk.1 hk.2 (by omega) (by omega) (fun g => ?_) t3
  rcases N with N | N
  · exact N
  · have := em_B_pos m (hh π L k (l ++ [y])) N
    omega
theorem px_ef_f0 (n o m : Int) (ρ : fb_S) : fr_a [37] [137, 138, 139, 140] ρ (px_ef n o m ρ) := by
  unfold px_ef
  refine fr_ite ?_ (fr_ite ?_ (fr_ite ?_ (fr_ite ?_ (fr_ite ?_ (fr_ite ?_ (fr_ite ?_ (fr_ite ?_ (fr_ite ?_ (fr_ite ?_ (fr_ite ?_ ?_))))))))))
  · exact fr_sg (fr_sg (fr_rf _ _ _) (by decide)) (by decide)
  · exact fr_sm (fr_rf _ _ _) (by decide)
  · exact fr_sg (fr_sg (fr_sg (fr_rf _ _ _) (by decide)) (by decide)) (by decide)
  · exact fr_sg (fr_sg (fr_sg (fr_rf _ _ _) (by decide)) (by decide)) (by decide)
  · exact fr_sg (fr_sg (fr_rf _ _ _) (by decide)) (by decide)
  · exact fr_sg (fr_sg (fr_rf _ _ _) (by decide)) (by decide)
  · exact fr_sg (fr_sg (fr_rf _ _ _) (by decide)) (by decide)
  · exact fr_sg (fr_sm (fr_sg (fr_rf _ _ _) (by decide)) (by decide)) (by decide)
  · exact fr_sg (fr_sm (fr_sg (fr_rf _ _ _) (by decide)) (by decide)) (by decide)
  · exact fr_sg (fr_sg (fr_rf _ _ _) (by decide)) (by decide)
  · exact fr_sg (fr_sg (fr_rf _ _ _) (by decide)) (by decide)
  · exact fr_sg (fr_sg (fr_rf _ _ _) (by decide)) (by decide)
theorem px_ef_fr (n o m : Int) (ρ : fb_S) : fr_a [37] [134, 136, 137, 138, 139, 140] ρ (px_ef n o m ρ) := fr_up (px_ef_f0 n o m ρ) (by simp) (by simp)
theorem px_ef_136 (n o m : Int) (ρ : fb_S) : (px_ef n o m ρ).1 136 = ρ.1 136 := (px_ef_f0 n o m ρ).1 136 (by decide)
theorem px_N_fr (τ : fb_S) (p : Int) : fr_a [37] [134, 136, 137, 138, 139, 140] τ (px_N τ p) := fr_sg (fr_sg (fr_rf _ _ _) (by decide)) (by decide)
/-- places that data instructions name -/
def qi (x q : Int) : Prop := (0 ≤ q ∧ q < 128) ∨ (256 ≤ q ∧ q < 512) ∨ (512 ≤ q ∧ q < 640 ∧ q - 512 + x < 128)
theorem px_m_eq {d e : Int → Int} (hx : 0 ≤ x) (hd : ∀ j, 0 ≤ j → j < 128 → e j = d j) (hq : qi x q) : px_m e x q = px_m d x q := by
  unfold px_m
  unfold qi at hq
  by_cases g : q < 256
  · rw [if_pos g, if_pos g]; exact hd q (by omega) (by omega)
  · rw [if_neg g, if_neg g]
    by_cases g2 : q < 512
    · rw [if_pos g2, if_pos g2]
    · rw [if_neg g2, if_neg g2]; exact hd _ (by omega) (by omega)
theorem g_data (C : gc π L k σ) (e : ly_c π L k = l ++ ((n, q) :: m)) (N : nl π k m) (P : pt S π L k σ l τ s d a x c z) (hn : 0 ≤ n ∧ n ≤ 11) (no : ¬ (n = 0 ∧ q = hh π L k l)) (hq : qi x q) (hw : (n = 1 ∨ n = 7 ∨ n = 8) → q < 256 ∨ 512 ≤ q) (h : Gz E π L k (pp π L k (l ++ [(n, q)])) (s + 1) (px_ef n (px_o x q) (px_m d x q) (px_N τ (pp π L k (l ++ [(n, q)])))) Q) : Gz E π L k (pp π L k l) s τ Q := by
  have eb : em_b (hh π L k l) n q = (8 * n + en_f q) :: (q % 256) :: (if en_f q = 3 ∨ en_f q = 5 then [0] else []) := by
    unfold em_b
    rw [if_pos hn.2, if_neg no]
  apply g_one C e N P (by show 0 < (em_b (hh π L k l) n q).length; rw [eb]; simp)
  intro hcb hpp
  obtain ⟨⟨f0, ⟨f1, f2⟩, f3, ⟨f4, f5⟩, ⟨f6, f7⟩, ⟨f8, f9⟩, -⟩, -, -⟩ := P
  have em := px_m_eq (d := d) (e := τ.2 37) f7.1 (fun j j0 j1 => (f3 j j0 j1).1) hq
  change cb τ (pp π L k l) (em_b (hh π L k l) n q) at hcb
  change pp π L k (l ++ [(n, q)]) = pp π L k l + ((em_b (hh π L k l) n q).length : Nat) at hpp
  rw [eb] at hcb hpp
  generalize pp π L k (l ++ [(n, q)]) = p' at *
  subst f4 f6 f8
  refine px_dat (pp π L k l) n q f1 hcb hn hq hw (fun j j0 j1 => ?_) f5 f7 f9 p' (by rw [hpp]; simp only [List.length_cons]; omega) ?_
  · rw [(f3 j j0 j1).1]; exact (f3 j j0 j1).2
  · rw [em]
    refine ⟨fr_tr f0 (fr_tr (px_N_fr _ _) (px_ef_fr _ _ _ _)), ?_, h⟩
    rw [px_ef_136]
    rfl
end IT
