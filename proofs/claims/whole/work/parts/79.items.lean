/-! the class's processor: what each item does -/
def px_ra (n a c m : Int) : Int := if n = 2 then (a + m + c) % 256 else if n = 3 then (a + (255 - m) + c) % 256 else if n = 4 then ((a.toNat &&& m.toNat : Nat) : Int) else if n = 5 then ((a.toNat ||| m.toNat : Nat) : Int) else ((a.toNat ^^^ m.toNat : Nat) : Int)
def px_rc (n a c m : Int) : Int := if n = 2 then (a + m + c) / 256 else if n = 3 then (a + (255 - m) + c) / 256 else c
section IS
variable {E : fb_E} {π σ τ : fb_S} {L : Int → Int} {S k s n q a x c z : Int} {d : Int → Int} {l m : em_I} {Q : Int → fb_S → Prop}
theorem px_zf_in (m : Int) : 0 ≤ px_zf m ∧ px_zf m ≤ 1 := by
  unfold px_zf
  split <;> omega
theorem px_ra_in (hn : 2 ≤ n ∧ n ≤ 6) {m : Int} (ha : 0 ≤ a ∧ a ≤ 255) (hm : 0 ≤ m ∧ m ≤ 255) (hc : 0 ≤ c ∧ c ≤ 1) : (0 ≤ px_ra n a c m ∧ px_ra n a c m ≤ 255) ∧ (0 ≤ px_rc n a c m ∧ px_rc n a c m ≤ 1) := by
  have h1 : a.toNat < 2 ^ 8 := by omega
  have h2 : m.toNat < 2 ^ 8 := by omega
  have a1 : a.toNat &&& m.toNat ≤ a.toNat := Nat.and_le_left
  have a2 := Nat.or_lt_two_pow h1 h2
  have a3 := Nat.xor_lt_two_pow h1 h2
  unfold px_ra px_rc
  constructor
  · by_cases e2 : n = 2
    · rw [if_pos e2]; omega
    · rw [if_neg e2]
      by_cases e3 : n = 3
      · rw [if_pos e3]; omega
      · rw [if_neg e3]
        by_cases e4 : n = 4
        · rw [if_pos e4]; omega
        · rw [if_neg e4]
          by_cases e5 : n = 5
          · rw [if_pos e5]; omega
          · rw [if_neg e5]; omega
  · by_cases e2 : n = 2
    · rw [if_pos e2]; omega
    · rw [if_neg e2]
      by_cases e3 : n = 3
      · rw [if_pos e3]; omega
      · rw [if_neg e3]; omega
theorem px_ef_bin (hn : 2 ≤ n ∧ n ≤ 6) (o m : Int) (ρ : fb_S) : px_ef n o m ρ = fb_sg (fb_sg (fb_sg ρ 139 (px_rc n (ρ.1 137) (ρ.1 139) m)) 137 (px_ra n (ρ.1 137) (ρ.1 139) m)) 140 (px_zf (px_ra n (ρ.1 137) (ρ.1 139) m)) := by
  have h139 : fb_sg ρ 139 (ρ.1 139) = ρ := by
    unfold fb_sg
    have : (fun j => if j = 139 then ρ.1 139 else ρ.1 j) = ρ.1 := by
      funext j
      by_cases e : j = 139
      · rw [if_pos e, e]
      · rw [if_neg e]
    rw [this]
  unfold px_ef px_ra px_rc
  rw [if_neg (show ¬ n = 0 by omega), if_neg (show ¬ n = 1 by omega)]
  by_cases e2 : n = 2
  · rw [if_pos e2, if_pos e2, if_pos e2]
  · rw [if_neg e2, if_neg e2, if_neg e2]
    by_cases e3 : n = 3
    · rw [if_pos e3, if_pos e3, if_pos e3]
    · rw [if_neg e3, if_neg e3, if_neg e3, h139]
      by_cases e4 : n = 4
      · rw [if_pos e4, if_pos e4]
      · rw [if_neg e4, if_neg e4]
        by_cases e5 : n = 5
        · rw [if_pos e5, if_pos e5]
        · rw [if_neg e5, if_neg e5, if_pos (show n = 6 by omega)]
theorem em_w_y (no : ¬ (n = 0 ∧ q = hh π L k l)) (hn : n ≤ 11) : em_W (ly_i π L k) (l ++ [(n, q)]) = em_W (ly_i π L k) l + 1 := by
  rw [em_W_1]
  show _ + em_w (hh π L k l) n q = _
  unfold em_w
  rw [if_pos hn, if_neg no]
theorem px_m_1 (h : q < 256) : px_m d x q = d q := if_pos h
theorem px_m_2 (h : 256 ≤ q) (h2 : q < 512) : px_m d x q = q - 256 := by
  unfold px_m
  rw [if_neg (show ¬ q < 256 by omega), if_pos h2]
theorem px_m_3 (h : 512 ≤ q) : px_m d x q = d (q - 512 + x) := by
  unfold px_m
  rw [if_neg (show ¬ q < 256 by omega), if_neg (show ¬ q < 512 by omega)]
theorem px_o_1 (h : q < 256) : px_o x q = q := if_pos h
theorem px_o_3 (h : 512 ≤ q) : px_o x q = q - 512 + x := by
  unfold px_o
  rw [if_neg (show ¬ q < 256 by omega), if_neg (show ¬ q < 512 by omega)]
theorem hh_d (no : ¬ (n = 0 ∧ q = hh π L k l)) (hn : n ≤ 11) : hh π L k (l ++ [(n, q)]) = en_h (hh π L k l) n q := by
  unfold hh
  rw [em_H_1]
  show em_h (hh π L k l) n q = en_h (hh π L k l) n q
  unfold em_h
  rw [if_pos hn, if_neg no]
theorem hh_1 {y : Int × Int} : hh π L k (l ++ [y]) = em_h (hh π L k l) y.1 y.2 := em_H_1 _ _ _
theorem hv_n : hv d a (-1) := ⟨by omega, fun h => by omega, fun h => by omega⟩
/-- a new state of the processor, one step on -/
theorem pt_new {τ' : fb_S} {y : Int × Int} {d' : Int → Int} {a' x' c' z' : Int} (P : pt S π L k σ l τ s d a x c z) (fr : fr_a [37] [134, 136, 137, 138, 139, 140] τ τ') (h136 : τ'.1 136 = pp π L k (l ++ [y])) (h134 : τ'.1 134 = τ.1 134 + 1) (hw : em_W (ly_i π L k) (l ++ [y]) = em_W (ly_i π L k) l + 1) (hd : ∀ j, 0 ≤ j → j < 128 → τ'.2 37 j = d' j ∧ 0 ≤ d' j ∧ d' j ≤ 255) (ha : τ'.1 137 = a' ∧ 0 ≤ a' ∧ a' ≤ 255) (hx : τ'.1 138 = x' ∧ 0 ≤ x' ∧ x' ≤ 255) (hc : τ'.1 139 = c' ∧ 0 ≤ c' ∧ c' ≤ 1) (hz : τ'.1 140 = z' ∧ 0 ≤ z' ∧ z' ≤ 1) (hh' : hv d' a' (hh π L k (l ++ [y]))) : pt S π L k σ (l ++ [y]) τ' (s + 1) d' a' x' c' z' := by
  obtain ⟨⟨f0, ⟨f1, f2⟩, f3⟩, f4, f5⟩ := P
  refine ⟨⟨fr_tr f0 fr, ⟨h136, by omega⟩, hd, ha, hx, hc, hz⟩, hh', ?_⟩
  rw [List.length_append]
  show 0 ≤ s + 1 ∧ s + 1 ≤ S + ((l.length + 1 : Nat) : Int) ∧ S ≤ 20
  omega
theorem g_asc {y : Int × Int} (e : ly_c π L k = l ++ (y :: m)) : ly_c π L k = (l ++ [y]) ++ m := by
  rw [List.append_assoc]
  exact e
theorem g_lda (C : gc π L k σ) (N : nl π k m) (hq : qi x q) (h : ∀ z', (¬ q = hh π L k l → z' = px_zf (px_m d x q)) → Gt S E π L k σ Q (l ++ [(0, q)]) m d (px_m d x q) x c z') : Gt S E π L k σ Q l ((0, q) :: m) d a x c z := by
  intro e τ s P
  have P0 := P
  obtain ⟨⟨f0, ⟨f1, f2⟩, f3, ⟨f4, f5⟩, ⟨f6, f7⟩, ⟨f8, f9⟩, f10⟩, f11, f12⟩ := P0
  have hm := px_m_in f7.1 (fun j j0 j1 => (f3 j j0 j1).2) hq
  have hq' : 0 ≤ q := by unfold qi at hq; omega
  by_cases g : q = hh π L k l
  · have eh : hh π L k (l ++ [(0, q)]) = q := by
      rw [hh_1]
      unfold em_h
      rw [if_pos (show (0 : Int) ≤ 11 by omega), if_pos ⟨rfl, g⟩, g]
    have ep : pp π L k (l ++ [(0, q)]) = pp π L k l := by
      have := (pi_cb C.1 C.2.1.1 C.2.1.2 (m1 := [(0, q)]) (m2 := m) e).2.1
      rw [em_B_1, show em_b (hh π L k l) 0 q = [] by unfold em_b; rw [if_pos (show (0 : Int) ≤ 11 by omega), if_pos ⟨rfl, g⟩]] at this
      rw [this]
      simp
    have ew : em_W (ly_i π L k) (l ++ [(0, q)]) = em_W (ly_i π L k) l := by
      rw [em_W_1]
      unfold em_w
      rw [if_pos (show (0 : Int) ≤ 11 by omega), if_pos ⟨rfl, g⟩]
      omega
    have ea : a = px_m d x q := by
      rw [← g] at f11
      unfold px_m
      unfold qi at hq
      by_cases g1 : q < 256
      · rw [if_pos g1]; exact f11.2.1 hq' g1
      · rw [if_neg g1]
        have hq5 : q < 512 := f11.1
        rw [if_pos hq5]; exact f11.2.2 (by omega)
    rw [← ep]
    refine h z (fun n => absurd g n) (g_asc e) τ s ⟨⟨f0, ⟨by rw [ep]; exact f1, by rw [ew]; exact f2⟩, f3, ⟨f4.trans ea, hm⟩, ⟨f6, f7⟩, ⟨f8, f9⟩, f10⟩, ?_, by rw [List.length_append]; show 0 ≤ s ∧ s ≤ S + ((l.length + 1 : Nat) : Int) ∧ S ≤ 20; omega⟩
    rw [eh]
    rw [← g, ea] at f11
    exact f11
  · have no : ¬ ((0 : Int) = 0 ∧ q = hh π L k l) := fun h => g h.2
    apply g_data C e N P (by omega) no hq (fun h => by omega)
    refine h _ (fun _ => rfl) (g_asc e) _ _ (pt_new P (fr_tr (px_N_fr _ _) (px_ef_fr _ _ _ _)) (px_ef_136 _ _ _ _) rfl (em_w_y no (by omega)) f3 ⟨rfl, hm⟩ ⟨f6, f7⟩ ⟨f8, f9⟩ ⟨rfl, px_zf_in _⟩ ?_)
    rw [hh_d no (by omega)]
    unfold en_h
    rw [if_pos rfl]
    by_cases g5 : q < 512
    · rw [if_pos g5]
      exact ⟨g5, fun _ h2 => px_m_1 h2, fun h1 => px_m_2 h1 g5⟩
    · rw [if_neg g5]
      exact hv_n
theorem g_sta (C : gc π L k σ) (N : nl π k m) (hq : qi x q) (hr : q < 256 ∨ 512 ≤ q) (h : Gt S E π L k σ Q (l ++ [(1, q)]) m (up d (px_o x q) a) a x c z) : Gt S E π L k σ Q l ((1, q) :: m) d a x c z := by
  intro e τ s P
  have P0 := P
  obtain ⟨⟨f0, ⟨f1, f2⟩, f3, ⟨f4, f5⟩, ⟨f6, f7⟩, ⟨f8, f9⟩, f10⟩, f11, f12⟩ := P0
  have no : ¬ ((1 : Int) = 0 ∧ q = hh π L k l) := fun h => by omega
  apply g_data C e N P (by omega) no hq (fun _ => hr)
  refine h (g_asc e) _ _ (pt_new P (fr_tr (px_N_fr _ _) (px_ef_fr _ _ _ _)) (px_ef_136 _ _ _ _) rfl (em_w_y no (by omega)) (fun j j0 j1 => ?_) ⟨f4, f5⟩ ⟨f6, f7⟩ ⟨f8, f9⟩ f10 ?_)
  · show (fb_sm (px_N τ (pp π L k (l ++ [(1, q)]))) 37 (px_o x q) (τ.1 137)).2 37 j = up d (px_o x q) a j ∧ _
    rw [fb_at]
    by_cases g : j = px_o x q
    · rw [if_pos g, g, up_y]; exact ⟨f4, f5⟩
    · rw [if_neg g, up_n g]; exact f3 j j0 j1
  · rw [hh_d no (by omega)]
    unfold en_h
    rw [if_neg (show ¬ (1 : Int) = 0 by omega), if_pos rfl]
    by_cases g5 : q < 512
    · rw [if_pos g5]
      unfold qi at hq
      refine ⟨g5, fun _ _ => ?_, fun h1 => by omega⟩
      rw [px_o_1 (by omega), up_y]
    · rw [if_neg g5]
      refine ⟨f11.1, fun h1 h2 => ?_, f11.2.2⟩
      by_cases g : hh π L k l = px_o x q
      · rw [g, up_y]
      · rw [up_n g]; exact f11.2.1 h1 h2
theorem g_bin (C : gc π L k σ) (N : nl π k m) (hn : 2 ≤ n ∧ n ≤ 6) (hq : qi x q) (h : Gt S E π L k σ Q (l ++ [(n, q)]) m d (px_ra n a c (px_m d x q)) x (px_rc n a c (px_m d x q)) (px_zf (px_ra n a c (px_m d x q)))) : Gt S E π L k σ Q l ((n, q) :: m) d a x c z := by
  intro e τ s P
  have P0 := P
  obtain ⟨⟨f0, ⟨f1, f2⟩, f3, ⟨f4, f5⟩, ⟨f6, f7⟩, ⟨f8, f9⟩, f10⟩, f11, f12⟩ := P0
  have hm := px_m_in f7.1 (fun j j0 j1 => (f3 j j0 j1).2) hq
  have no : ¬ (n = 0 ∧ q = hh π L k l) := fun h => by omega
  have hi := px_ra_in hn f5 hm f9
  apply g_data C e N P (by omega) no hq (fun h => by omega)
  rw [px_ef_bin hn]
  rw [show (px_N τ (pp π L k (l ++ [(n, q)]))).1 137 = a from f4, show (px_N τ (pp π L k (l ++ [(n, q)]))).1 139 = c from f8]
  refine h (g_asc e) _ _ (pt_new P (fr_sg (fr_sg (fr_sg (px_N_fr _ _) (by decide)) (by decide)) (by decide)) rfl rfl (em_w_y no (by omega)) f3 ⟨rfl, hi.1⟩ ⟨f6, f7⟩ ⟨rfl, hi.2⟩ ⟨rfl, px_zf_in _⟩ ?_)
  rw [hh_d no (by omega)]
  unfold en_h
  rw [if_neg (show ¬ n = 0 by omega), if_neg (show ¬ n = 1 by omega), if_pos (show n ≤ 6 by omega)]
  exact hv_n
/-- ASL, ROL: v is what comes out -/
theorem g_shf (C : gc π L k σ) (N : nl π k m) (hn : n = 7 ∨ n = 8) (hq : 0 ≤ q ∧ q < 128) {v : Int} (hv7 : n = 7 → v = 2 * d q) (hv8 : n = 8 → v = 2 * d q + c) (h : ∀ z', Gt S E π L k σ Q (l ++ [(n, q)]) m (up d q (v % 256)) a x (v / 256) z') : Gt S E π L k σ Q l ((n, q) :: m) d a x c z := by
  intro e τ s P
  have P0 := P
  obtain ⟨⟨f0, ⟨f1, f2⟩, f3, ⟨f4, f5⟩, ⟨f6, f7⟩, ⟨f8, f9⟩, f10⟩, f11, f12⟩ := P0
  have no : ¬ (n = 0 ∧ q = hh π L k l) := fun h => by omega
  have hdq := (f3 q hq.1 hq.2).2
  have hvr : 0 ≤ v ∧ v ≤ 511 := by
    rcases hn with g | g
    · have := hv7 g; omega
    · have := hv8 g; omega
  apply g_data C e N P (by omega) no (Or.inl hq) (fun _ => by omega)
  have ef : px_ef n (px_o x q) (px_m d x q) (px_N τ (pp π L k (l ++ [(n, q)]))) = fb_sg (fb_sm (fb_sg (px_N τ (pp π L k (l ++ [(n, q)]))) 139 (v / 256)) 37 q (v % 256)) 140 (px_zf (v % 256)) := by
    rw [px_o_1 (by omega), px_m_1 (by omega)]
    rcases hn with g | g
    · rw [hv7 g, g]; rfl
    · rw [hv8 g, g, ← f8]; rfl
  rw [ef]
  refine h _ (g_asc e) _ _ (pt_new P (fr_sg (fr_sm (fr_sg (px_N_fr _ _) (by decide)) (by decide)) (by decide)) rfl rfl (em_w_y no (by omega)) (fun j j0 j1 => ?_) ⟨f4, f5⟩ ⟨f6, f7⟩ ⟨rfl, by omega⟩ ⟨rfl, px_zf_in _⟩ ?_)
  · rw [fb_sg2, fb_at]
    by_cases g : j = q
    · rw [if_pos g, g, up_y]; exact ⟨rfl, by omega⟩
    · rw [if_neg g, up_n g]; exact f3 j j0 j1
  · rw [hh_d no (by omega)]
    unfold en_h
    rw [if_neg (show ¬ n = 0 by omega), if_neg (show ¬ n = 1 by omega), if_neg (show ¬ n ≤ 6 by omega), if_pos (show n ≤ 8 by omega)]
    by_cases g : q = hh π L k l
    · rw [if_pos g]; exact hv_n
    · rw [if_neg g]
      refine ⟨f11.1, fun h1 h2 => ?_, f11.2.2⟩
      rw [up_n (fun z => g z.symm)]; exact f11.2.1 h1 h2
theorem hh_x (hn : 9 ≤ n ∧ n ≤ 11) : hh π L k (l ++ [(n, q)]) = hh π L k l := by
  rw [hh_d (by omega) (by omega)]
  unfold en_h
  rw [if_neg (show ¬ n = 0 by omega), if_neg (show ¬ n = 1 by omega), if_neg (show ¬ n ≤ 6 by omega), if_neg (show ¬ n ≤ 8 by omega)]
theorem g_ldx (C : gc π L k σ) (N : nl π k m) (hq : 0 ≤ q ∧ q < 128) (h : ∀ z', Gt S E π L k σ Q (l ++ [(9, q)]) m d a (d q) c z') : Gt S E π L k σ Q l ((9, q) :: m) d a x c z := by
  intro e τ s P
  have P0 := P
  obtain ⟨⟨f0, ⟨f1, f2⟩, f3, ⟨f4, f5⟩, ⟨f6, f7⟩, ⟨f8, f9⟩, f10⟩, f11, f12⟩ := P0
  have no : ¬ ((9 : Int) = 0 ∧ q = hh π L k l) := fun h => by omega
  apply g_data C e N P (by omega) no (Or.inl hq) (fun _ => by omega)
  refine h _ (g_asc e) _ _ (pt_new P (fr_tr (px_N_fr _ _) (px_ef_fr _ _ _ _)) (px_ef_136 _ _ _ _) rfl (em_w_y no (by omega)) f3 ⟨f4, f5⟩ ⟨?_, (f3 q hq.1 hq.2).2⟩ ⟨f8, f9⟩ ⟨rfl, px_zf_in _⟩ ?_)
  · exact px_m_1 (by omega)
  · rw [hh_x (by omega)]; exact f11
theorem g_cmp (C : gc π L k σ) (N : nl π k m) (hn : n = 10 ∨ n = 11) (hq : qi x q) {u : Int} (hu : u = if n = 10 then a else x) (h : Gt S E π L k σ Q (l ++ [(n, q)]) m d a x (if u < px_m d x q then 0 else 1) (if u = px_m d x q then 1 else 0)) : Gt S E π L k σ Q l ((n, q) :: m) d a x c z := by
  intro e τ s P
  have P0 := P
  obtain ⟨⟨f0, ⟨f1, f2⟩, f3, ⟨f4, f5⟩, ⟨f6, f7⟩, ⟨f8, f9⟩, f10⟩, f11, f12⟩ := P0
  have no : ¬ (n = 0 ∧ q = hh π L k l) := fun h => by omega
  apply g_data C e N P (by omega) no hq (fun h => by omega)
  have ef : px_ef n (px_o x q) (px_m d x q) (px_N τ (pp π L k (l ++ [(n, q)]))) = fb_sg (fb_sg (px_N τ (pp π L k (l ++ [(n, q)]))) 139 (if u < px_m d x q then 0 else 1)) 140 (if u = px_m d x q then 1 else 0) := by
    rcases hn with g | g
    · rw [hu, if_pos g, g, ← f4]; rfl
    · rw [hu, if_neg (show ¬ n = 10 by omega), g, ← f6]; rfl
  rw [ef]
  refine h (g_asc e) _ _ (pt_new P (fr_sg (fr_sg (px_N_fr _ _) (by decide)) (by decide)) rfl rfl (em_w_y no (by omega)) f3 ⟨f4, f5⟩ ⟨f6, f7⟩ ⟨rfl, ?_⟩ ⟨rfl, ?_⟩ ?_)
  · split <;> omega
  · split <;> omega
  · rw [hh_x (by omega)]; exact f11
theorem hh_a (hn : 12 ≤ n ∧ n ≤ 31) (h19 : ¬ n = 19) : hh π L k (l ++ [(n, q)]) = hh π L k l := by
  unfold hh
  rw [em_H_1]
  show em_h (hh π L k l) n q = _
  unfold em_h
  rw [if_neg (show ¬ n ≤ 11 by omega), if_neg (by omega)]
  rfl
theorem em_w_a (hn : 12 ≤ n ∧ n ≤ 22) : em_W (ly_i π L k) (l ++ [(n, q)]) = em_W (ly_i π L k) l + 1 := by
  rw [em_W_1]
  show _ + em_w (hh π L k l) n q = _
  unfold em_w
  rw [if_neg (show ¬ n ≤ 11 by omega), if_pos (by omega)]
theorem g_flag (C : gc π L k σ) (N : nl π k m) (hn : n = 12 ∨ n = 13) (h : Gt S E π L k σ Q (l ++ [(n, 0)]) m d a x (n - 12) z) : Gt S E π L k σ Q l ((n, 0) :: m) d a x c z := by
  intro e τ s P
  have P0 := P
  obtain ⟨⟨f0, ⟨f1, f2⟩, f3, ⟨f4, f5⟩, ⟨f6, f7⟩, ⟨f8, f9⟩, f10⟩, f11, f12⟩ := P0
  have eb : em_b (hh π L k l) n 0 = [8 * n] := by
    unfold em_b
    rw [if_neg (show ¬ n ≤ 11 by omega), if_neg (by omega), if_pos (by omega)]
  apply g_one C e N P (by show 0 < (em_b (hh π L k l) n 0).length; rw [eb]; simp)
  intro hcb hpp
  change cb τ (pp π L k l) (em_b (hh π L k l) n 0) at hcb
  change pp π L k (l ++ [(n, 0)]) = pp π L k l + ((em_b (hh π L k l) n 0).length : Nat) at hpp
  rw [eb] at hcb hpp
  have hpp' : pp π L k l + 1 = pp π L k (l ++ [(n, 0)]) := by rw [hpp]; simp
  apply px_alone (pp π L k l) n f1 hcb (by omega)
  rw [hpp']
  have fin : fr_a [37] [134, 136, 137, 138, 139, 140] σ (fb_sg (px_N τ (pp π L k (l ++ [(n, 0)]))) 139 (n - 12)) ∧ (fb_sg (px_N τ (pp π L k (l ++ [(n, 0)]))) 139 (n - 12)).1 136 = pp π L k (l ++ [(n, 0)]) ∧ Gz E π L k (pp π L k (l ++ [(n, 0)])) (s + 1) (fb_sg (px_N τ (pp π L k (l ++ [(n, 0)]))) 139 (n - 12)) Q := by
    refine ⟨fr_tr f0 (fr_sg (px_N_fr _ _) (by decide)), rfl, ?_⟩
    refine h (g_asc e) _ _ (pt_new P (fr_sg (px_N_fr _ _) (by decide)) rfl rfl (em_w_a (by omega)) f3 ⟨f4, f5⟩ ⟨f6, f7⟩ ⟨rfl, by omega⟩ f10 ?_)
    rw [hh_a (by omega) (by omega)]
    exact f11
  apply Po_doAlone_b0
  refine ⟨by clear fin; omega, fun g => ?_, fun g => ?_, fun g => by clear fin; omega, fun g => by clear fin; omega, fun g => by clear fin; omega⟩
  · rw [show n - 12 = 0 by clear fin; omega] at fin; exact fin
  · rw [show n - 12 = 1 by clear fin; omega] at fin; exact fin
/-- forget what is held -/
theorem g_fgt (C : gc π L k σ) (h : Gt S E π L k σ Q (l ++ [(32, 0)]) m d a x c z) : Gt S E π L k σ Q l ((32, 0) :: m) d a x c z := by
  intro e τ s P
  obtain ⟨⟨f0, ⟨f1, f2⟩, f3, ⟨f4, f5⟩, ⟨f6, f7⟩, ⟨f8, f9⟩, f10⟩, f11, f12⟩ := P
  have ep : pp π L k (l ++ [(32, 0)]) = pp π L k l := by
    have := (pi_cb C.1 C.2.1.1 C.2.1.2 (m1 := [(32, 0)]) (m2 := m) e).2.1
    rw [em_B_1, show em_b (hh π L k l) 32 0 = [] from rfl] at this
    rw [this]
    simp
  have ew : em_W (ly_i π L k) (l ++ [(32, 0)]) = em_W (ly_i π L k) l := by
    rw [em_W_1]
    show _ + em_w (hh π L k l) 32 0 = _
    rw [show em_w (hh π L k l) 32 0 = 0 from rfl]
    omega
  rw [← ep]
  refine h (g_asc e) τ s ⟨⟨f0, ⟨by rw [ep]; exact f1, by rw [ew]; exact f2⟩, f3, ⟨f4, f5⟩, ⟨f6, f7⟩, ⟨f8, f9⟩, f10⟩, ?_, by rw [List.length_append]; show 0 ≤ s ∧ s ≤ S + ((l.length + 1 : Nat) : Int) ∧ S ≤ 20; omega⟩
  unfold hh
  rw [em_H_1]
  exact hv_n
theorem g_end (h : ∀ τ s, pt S π L k σ (ly_c π L k) τ s d a x c z → Q 0 τ) (k0 : 0 ≤ k) : Gt S E π L k σ Q l [] d a x c z := by
  intro e τ s P
  rw [List.append_nil] at e
  have ep : pp π L k l = ly_a π L (k + 1) := by
    rw [← e]
    exact (ly_a_s (π := π) (L := L) k0 (ly_a π L (ly_gi π k)) (ly_b π L k)).symm
  rw [← e] at P
  exact ⟨fun _ => h τ s P, fun g => by omega⟩
end IS
