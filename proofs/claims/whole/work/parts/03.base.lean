/-! A small machine over the kit's: the state is numbers (Int), the cells have fixed places; a judgement fb_V that goes by rows. -/
-- the numbers of a state: scalar fields (32 * cell + place), arrays (cell, index)
abbrev fb_S : Type := (Nat → Int) × (Nat → Int → Int)
def fb_sg (σ : fb_S) (k : Nat) (v : Int) : fb_S := (fun j => if j = k then v else σ.1 j, σ.2)
def fb_sm (σ : fb_S) (k : Nat) (i : Int) (v : Int) : fb_S := (σ.1, fun a j => if a = k ∧ j = i then v else σ.2 a j)
theorem fb_sg1 (σ : fb_S) (k : Nat) (v : Int) (j : Nat) : (fb_sg σ k v).1 j = if j = k then v else σ.1 j := rfl
theorem fb_sg2 (σ : fb_S) (k : Nat) (v : Int) : (fb_sg σ k v).2 = σ.2 := rfl
theorem fb_sm1 (σ : fb_S) (k : Nat) (i v : Int) : (fb_sm σ k i v).1 = σ.1 := rfl
theorem fb_sm2 (σ : fb_S) (k : Nat) (i v : Int) (a : Nat) (j : Int) : (fb_sm σ k i v).2 a j = if a = k ∧ j = i then v else σ.2 a j := rfl
theorem fb_same (σ : fb_S) (k : Nat) (i v : Int) : (fb_sm σ k i v).2 k i = v := by rw [fb_sm2, if_pos ⟨rfl, rfl⟩]
-- a value: a number, or a cell by its place
abbrev fb_X : Type := Int ⊕ Nat
def fb_cv (ad : Nat → Nat) : fb_X → Value
  | .inl x => .int (Int32.ofInt x)
  | .inr k => .ref (ad k)
-- launch, classes, addresses, first new address, the array classes (int, boolean, int[])
abbrev fb_E : Type := Launch × va_G × (Nat → Nat) × Nat × ClassId × ClassId × ClassId
def fb_fv (ad : Nat → Nat) (σ : fb_S) (k i : Nat) (d : Option Nat) : Value := match d with
  | some c => .ref (ad c)
  | none => .int (Int32.ofInt (σ.1 (32 * k + i)))
def fb_r0 (r : List (Option Nat)) : Nat := (r.headD none).getD 0
def fb_en (E : fb_E) (σ : fb_S) (k : Nat) (q : fb_Sh) : va_E := match q with
  | (0, ci, fds) => .inr (ci, fds.mapIdx (fb_fv E.2.2.1 σ k))
  | (1, n, _) => .inl (E.2.2.2.2.1, n, .inl (fun j : Nat => Int32.ofInt (σ.2 k j)))
  | (2, n, _) => .inl (E.2.2.2.2.2.1, n, .inl (fun j : Nat => Int32.ofInt (σ.2 k j)))
  | (_, n, r) => .inl (E.2.2.2.2.2.2, n, .inr (.inr (.inr (.inr (fun i : Nat => some (E.2.2.1 (fb_r0 r + i)))))))
def fb_W (E : fb_E) (σ : fb_S) : va_W := fb_shp.mapIdx (fun k q => (E.2.2.1 k, fb_en E σ k q))
theorem fb_W_at {E : fb_E} {σ : fb_S} {k : Nat} {q : fb_Sh} (h : fb_shp[k]? = some q) : (fb_W E σ)[k]? = some (E.2.2.1 k, fb_en E σ k q) := by
  simp [fb_W, List.getElem?_mapIdx, h]
theorem fb_W_of {E : fb_E} {σ : fb_S} {k : Nat} {x : Nat × va_E} (h : (fb_W E σ)[k]? = some x) : ∃ q, fb_shp[k]? = some q ∧ x = (E.2.2.1 k, fb_en E σ k q) := by
  rw [fb_W, List.getElem?_mapIdx] at h
  cases hq : fb_shp[k]? with
  | none => rw [hq] at h; cases h
  | some q => rw [hq] at h; exact ⟨q, rfl, (Option.some.inj h).symm⟩
theorem fb_lt {k : Nat} {q : fb_Sh} (h : fb_shp[k]? = some q) : k < fb_N := (List.getElem?_eq_some_iff.mp h).1
theorem fb_W_set {E : fb_E} {σ σ' : fb_S} {k : Nat} {q : fb_Sh} {e : va_E} (hk : fb_shp[k]? = some q) (he : fb_en E σ' k q = e) (ho : ∀ (j : Nat) (q' : fb_Sh), j ≠ k → fb_shp[j]? = some q' → fb_en E σ' j q' = fb_en E σ j q') : (fb_W E σ).set k (E.2.2.1 k, e) = fb_W E σ' := by
  apply List.ext_getElem?
  intro j
  by_cases hj : j = k
  · subst hj
    rw [fb_W_at hk, he, List.getElem?_set_self]
    simp only [fb_W, List.length_mapIdx]
    exact (List.getElem?_eq_some_iff.mp hk).1
  · rw [List.getElem?_set_ne (Ne.symm hj)]
    cases hq : fb_shp[j]? with
    | none => simp [fb_W, List.getElem?_mapIdx, hq]
    | some q' => rw [fb_W_at hq, fb_W_at hq, ho j q' hj hq]
theorem fb_fds_len {k ci : Nat} {fds : List (Option Nat)} (h : fb_shp[k]? = some (0, ci, fds)) : fds.length ≤ 32 := by
  have h1 := List.mem_of_getElem? h
  have h2 : ∀ q ∈ fb_shp, q.2.2.length ≤ 32 := by decide +kernel
  exact h2 _ h1
theorem fb_fv_other {ad : Nat → Nat} {σ : fb_S} {k j i : Nat} {v : Int} {fds : List (Option Nat)} (hi : i < 32) (hl : fds.length ≤ 32) (hj : j ≠ k) : fds.mapIdx (fb_fv ad (fb_sg σ (32 * k + i) v) j) = fds.mapIdx (fb_fv ad σ j) := by
  apply List.ext_getElem?
  intro t
  rw [List.getElem?_mapIdx, List.getElem?_mapIdx]
  cases hd : fds[t]? with
  | none => rfl
  | some d =>
    have ht := (List.getElem?_eq_some_iff.mp hd).1
    cases d with
    | some c => rfl
    | none => simp only [Option.map_some, fb_fv, fb_sg1]; rw [if_neg (by omega)]
theorem fb_en_other_g {E : fb_E} {σ : fb_S} {k i j : Nat} {v : Int} {q : fb_Sh} (hi : i < 32) (hj : j ≠ k) (hq : fb_shp[j]? = some q) : fb_en E (fb_sg σ (32 * k + i) v) j q = fb_en E σ j q := by
  obtain ⟨a, n, r⟩ := q
  match a, hq with
  | 0, hq => simp only [fb_en]; rw [fb_fv_other hi (fb_fds_len hq) hj]
  | 1, _ => rfl
  | 2, _ => rfl
  | _ + 3, _ => rfl
theorem fb_set_g {E : fb_E} {σ : fb_S} {k i ci : Nat} {v : Int} {fds : List (Option Nat)} (hk : fb_shp[k]? = some (0, ci, fds)) (hi : fds[i]? = some none) : (fb_W E σ).set k (E.2.2.1 k, .inr (ci, (fds.mapIdx (fb_fv E.2.2.1 σ k)).set i (.int (Int32.ofInt v)))) = fb_W E (fb_sg σ (32 * k + i) v) := by
  have hl := fb_fds_len hk
  have hil := (List.getElem?_eq_some_iff.mp hi).1
  refine fb_W_set hk ?_ (fun j q' hj hq => fb_en_other_g (by omega) hj hq)
  simp only [fb_en]
  congr 2
  apply List.ext_getElem?
  intro t
  by_cases ht : t = i
  · subst ht
    rw [List.getElem?_set_self (by rw [List.length_mapIdx]; exact hil), List.getElem?_mapIdx, hi]
    simp [fb_fv, fb_sg1]
  · rw [List.getElem?_set_ne (Ne.symm ht), List.getElem?_mapIdx, List.getElem?_mapIdx]
    cases hd : fds[t]? with
    | none => rfl
    | some d =>
      cases d with
      | some c => rfl
      | none => simp only [Option.map_some, fb_fv, fb_sg1]; rw [if_neg (by omega)]
theorem fb_en_other_m {E : fb_E} {σ : fb_S} {k j : Nat} {i v : Int} {q : fb_Sh} (hj : j ≠ k) : fb_en E (fb_sm σ k i v) j q = fb_en E σ j q := by
  obtain ⟨a, n, r⟩ := q
  have h : (fb_sm σ k i v).2 j = σ.2 j := by
    funext t
    rw [fb_sm2, if_neg (fun h => hj h.1)]
  match a with
  | 0 => rfl
  | 1 => simp only [fb_en, h]
  | 2 => simp only [fb_en, h]
  | _ + 3 => rfl
theorem fb_upd {σ : fb_S} {k : Nat} {i v : Int} (h0 : 0 ≤ i) : (fun j : Nat => Int32.ofInt ((fb_sm σ k i v).2 k j)) = upd (fun j : Nat => Int32.ofInt (σ.2 k j)) i.toNat (Int32.ofInt v) := by
  funext j
  rw [fb_sm2]
  unfold upd
  by_cases h : j = i.toNat
  · rw [if_pos ⟨rfl, by omega⟩, if_pos h]
  · rw [if_neg (by rintro ⟨-, h2⟩; omega), if_neg h]
theorem fb_set_m {E : fb_E} {σ : fb_S} {k n : Nat} {i v : Int} {r : List (Option Nat)} (hk : fb_shp[k]? = some (1, n, r)) (h0 : 0 ≤ i) : (fb_W E σ).set k (E.2.2.1 k, .inl (E.2.2.2.2.1, n, .inl (upd (fun j : Nat => Int32.ofInt (σ.2 k j)) i.toNat (Int32.ofInt v)))) = fb_W E (fb_sm σ k i v) := by
  refine fb_W_set hk ?_ (fun j q' hj _ => fb_en_other_m hj)
  simp only [fb_en]
  rw [fb_upd h0]
theorem fb_set_z {E : fb_E} {σ : fb_S} {k n : Nat} {i v : Int} {r : List (Option Nat)} (hk : fb_shp[k]? = some (2, n, r)) (h0 : 0 ≤ i) : (fb_W E σ).set k (E.2.2.1 k, .inl (E.2.2.2.2.2.1, n, .inl (upd (fun j : Nat => Int32.ofInt (σ.2 k j)) i.toNat (Int32.ofInt v)))) = fb_W E (fb_sm σ k i v) := by
  refine fb_W_set hk ?_ (fun j q' hj _ => fb_en_other_m hj)
  simp only [fb_en]
  rw [fb_upd h0]
