/-! numbers in the range of an int -/
theorem fb_ti {x : Int} (h1 : -2147483648 ≤ x) (h2 : x < 2147483648) : (Int32.ofInt x).toInt = x := Int32.toInt_ofInt_of_le (by omega) (by omega)
theorem fb_lt_iff {x y : Int} (hx : -2147483648 ≤ x ∧ x < 2147483648) (hy : -2147483648 ≤ y ∧ y < 2147483648) : Int32.ofInt x < Int32.ofInt y ↔ x < y := by
  rw [Int32.lt_iff_toInt_lt, fb_ti hx.1 hx.2, fb_ti hy.1 hy.2]
theorem fb_le_iff {x y : Int} (hx : -2147483648 ≤ x ∧ x < 2147483648) (hy : -2147483648 ≤ y ∧ y < 2147483648) : Int32.ofInt x ≤ Int32.ofInt y ↔ x ≤ y := by
  rw [Int32.le_iff_toInt_le, fb_ti hx.1 hx.2, fb_ti hy.1 hy.2]
theorem fb_eq_iff {x y : Int} (hx : -2147483648 ≤ x ∧ x < 2147483648) (hy : -2147483648 ≤ y ∧ y < 2147483648) : Int32.ofInt x = Int32.ofInt y ↔ x = y := by
  rw [← Int32.toInt_inj, fb_ti hx.1 hx.2, fb_ti hy.1 hy.2]
theorem fb_0 : Int32.ofInt 0 = 0 := rfl
theorem fb_in {i : Int} {n : Nat} (h0 : 0 ≤ i) (h1 : i < n) (hn : n < 2147483648) : vp_in (Int32.ofInt i) n ∧ (Int32.ofInt i).toNatClampNeg = i.toNat := by
  have e : (Int32.ofInt i).toInt = i := fb_ti (by omega) (by omega)
  have e2 : (Int32.ofInt i).toNatClampNeg = i.toNat := by rw [← Int32.toNat_toInt, e]
  refine ⟨vp_in_iff.mpr ?_, e2⟩
  rw [e]
  omega
theorem fb_len {k n : Nat} {a : Nat} {r : List (Option Nat)} (h : fb_shp[k]? = some (a, n, r)) : n < 2147483648 := by
  have h1 := List.mem_of_getElem? h
  have h2 : ∀ q ∈ fb_shp, q.2.1 < 2147483648 := by decide +kernel
  exact h2 _ h1
/-! the judgement -/
abbrev fb_A (E : fb_E) : Nat → Prop := fun q => E.2.2.2.1 ≤ q
def fb_ws (M : fb_M) : List Cond := .code M.1 M.2.1 M.2.2.1 M.2.2.2.1 :: fb_WA
def fb_rm (M : fb_M) : Room := { frames := M.2.2.2.2, cells := 0, slots := 0, locals := 40 * M.2.2.2.2 }
/-- the addresses: apart, new -/
def fb_H (E : fb_E) : Prop := (∀ i j, i < fb_N → j < fb_N → E.2.2.1 i = E.2.2.1 j → i = j) ∧ ∀ i, i < fb_N → E.2.2.2.1 ≤ E.2.2.1 i
abbrev fb_ty (E : fb_E) : List (ClassId × FieldType) := [(E.2.2.2.2.1, .int), (E.2.2.2.2.2.1, .boolean)]
/-- what holds of the tables -/
def fb_K (E : fb_E) (U : State) : Prop := va_K E.2.1 fb_cl (fb_ty E) U ∧ ArrOfT U E.2.2.2.2.2.2 (.array .int) ∧ (∀ w ∈ fb_NW, va_Nw w U) ∧ va_Z "FrameBackEnd" "SORTS" "[I" (.ref (E.2.2.1 99)) (fb_A E) U U.heap ∧ va_T .int (E.2.2.1 99) 48 (fun j => .int (Int32.ofInt (fb_sorts j))) (fb_A E) U U.heap
theorem fb_HD {E : fb_E} (h : fb_H E) (σ : fb_S) : va_D (fb_A E) (fb_W E σ) := by
  refine ⟨fun i j x y hi hj hxy => ?_, fun k q hk => ?_⟩
  · obtain ⟨q1, a1, rfl⟩ := fb_W_of hi
    obtain ⟨q2, a2, rfl⟩ := fb_W_of hj
    exact h.1 i j (fb_lt a1) (fb_lt a2) hxy
  · obtain ⟨q1, a1, rfl⟩ := fb_W_of hk
    exact h.2 k (fb_lt a1)
/-- the end of a method -/
def fb_Q (E : fb_E) (M : fb_M) (Q : Int → fb_S → Prop) : Array Value → State → Outcome → State → Prop := match M.2.2.2.1 with
  | none => va_Qv (fun σ' : fb_S => Q 0 σ') (fun σ' t => va_P E.2.1 fb_cl (fb_W E σ') t.heap) (fb_A E)
  | some _ => va_Qi (fun (r : Int32) (u : Int × fb_S) => r = Int32.ofInt u.1 ∧ Q u.1 u.2) (fun u t => va_P E.2.1 fb_cl (fb_W E u.2) t.heap) (fb_A E)
def fb_L (E : fb_E) (la : Array Slot) (n : Nat) (ls : List fb_X) : Prop := la.size = n ∧ lv_wf la ∧ (∀ (i : Nat) (x : Int), ls[i]? = some (.inl x) → la[i]? = some (.val (.int (Int32.ofInt x)))) ∧ ∀ (i k : Nat), ls[i]? = some (.inr k) → k ≠ 999 → la[i]? = some (.val (.ref (E.2.2.1 k)))
def fb_C (E : fb_E) (M : fb_M) (p : Program) (s : State) (m : MethodId) (args : Array Value) (meth : Method) (c : Code) : Prop :=
  p.tables.exec = Jvm.exec ∧ c.code = M.2.1 ∧ meth.sig.returnType = M.2.2.2.1 ∧ c.maxLocals = M.2.2.1 ∧ s.vm.findClass M.1.cls = some m.cls ∧ (∀ w ∈ fb_ws M, w.before args s = true) ∧ meth.locks = false ∧ fb_H E ∧ fb_K E s
def fb_V (E : fb_E) (M : fb_M) (pc : Nat) (ls st : List fb_X) (σ : fb_S) (Q : Int → fb_S → Prop) : Prop :=
  ∀ (p : Program) (e : Env) (s : State) (m : MethodId) (args : Array Value) (below : List Frame) (meth : Method) (c : Code) (H : Heap) (locs : List Loc) (la : Array Slot),
    fb_C E M p s m args meth c → va_P E.2.1 fb_cl (fb_W E σ) H → va_S (fb_A E) s.heap H locs → fb_L E la M.2.2.1 ls →
    W p E.1 e (fb_rm M) s m args below meth c H locs 0 0 (MQ below (fb_Q E M Q) args s 0 0 (fb_A E)) (F0 m pc la (st.map (fb_cv E.2.2.1)))
/-! the locals -/
theorem fb_L.int {E : fb_E} {la : Array Slot} {n : Nat} {ls : List fb_X} (h : fb_L E la n ls) {i : Nat} {x : Int} (hi : ls[i]? = some (.inl x)) : la[i]? = some (.val (.int (Int32.ofInt x))) := h.2.2.1 i x hi
theorem fb_L.ref {E : fb_E} {la : Array Slot} {n : Nat} {ls : List fb_X} (h : fb_L E la n ls) {i k : Nat} (hi : ls[i]? = some (.inr k)) (hk : k ≠ 999) : la[i]? = some (.val (.ref (E.2.2.1 k))) := h.2.2.2 i k hi hk
def fb_one (E : fb_E) (ls : List fb_X) (i : Nat) : Option (Nat × Value) := match ls[i]? with
  | some (.inl x) => some (i, .int (Int32.ofInt x))
  | some (.inr k) => if k = 999 then none else some (i, .ref (E.2.2.1 k))
  | none => none
def fb_lv (E : fb_E) (ls : List fb_X) : List (Nat × Value) := (List.range ls.length).filterMap (fb_one E ls)
theorem fb_L.has {E : fb_E} {la : Array Slot} {n : Nat} {ls : List fb_X} (h : fb_L E la n ls) : lv_has la n (fb_lv E ls) := by
  refine ⟨h.1, h.2.1, fun q hq => ?_⟩
  obtain ⟨i, -, hi⟩ := List.mem_filterMap.mp hq
  unfold fb_one at hi
  split at hi
  · next x hx => cases hi; exact h.int hx
  · next k hk =>
    split at hi
    · cases hi
    · next hne => cases hi; exact h.ref hk hne
  · cases hi
theorem fb_L.stored {E : fb_E} {la : Array Slot} {n : Nat} {ls : List fb_X} {i : Nat} {w : fb_X} {v : Value} (hi : i < ls.length) (hv : fb_cv E.2.2.1 w = v) (h : lv_has la n ((i, v) :: (fb_lv E ls).filter (fun q => !(q.1 == i) && !(q.1 + 1 == i && q.2.category == 2)))) : fb_L E la n (ls.set i w) := by
  have key : ∀ (j : Nat) (x : Nat × Value), j ≠ i → fb_one E ls j = some x → x.2.category = 1 → la[x.1]? = some (.val x.2) := by
    intro j x hj hx hc
    have hx1 : x.1 = j := by
      unfold fb_one at hx
      split at hx
      · cases hx; rfl
      · split at hx
        · cases hx
        · cases hx; rfl
      · cases hx
    have hlt : j < ls.length := by
      unfold fb_one at hx
      split at hx
      · next hx2 => exact (List.getElem?_eq_some_iff.mp hx2).1
      · next hx2 => exact (List.getElem?_eq_some_iff.mp hx2).1
      · cases hx
    refine h.2.2 x (List.mem_cons_of_mem _ (List.mem_filter.mpr ⟨List.mem_filterMap.mpr ⟨j, List.mem_range.mpr hlt, hx⟩, ?_⟩))
    simp [hx1, hj, hc]
  refine ⟨h.1, h.2.1, fun j x hj => ?_, fun j k hj hk => ?_⟩
  · by_cases e : j = i
    · subst e
      rw [List.getElem?_set_self hi] at hj
      cases hj
      exact h.2.2 (j, _) (by rw [← hv]; exact List.mem_cons_self)
    · rw [List.getElem?_set_ne (Ne.symm e)] at hj
      exact key j (j, .int (Int32.ofInt x)) e (by simp [fb_one, hj]) rfl
  · by_cases e : j = i
    · subst e
      rw [List.getElem?_set_self hi] at hj
      cases hj
      exact h.2.2 (j, _) (by rw [← hv]; exact List.mem_cons_self)
    · rw [List.getElem?_set_ne (Ne.symm e)] at hj
      exact key j (j, .ref (E.2.2.1 k)) e (by simp [fb_one, hj, hk]) rfl
section FBR
variable {E : fb_E} {M : fb_M} {pc : Nat} {ls st : List fb_X} {σ : fb_S} {Q : Int → fb_S → Prop}
theorem fb_Q_mono {Q Q2 : Int → fb_S → Prop} (hq : ∀ r σ', Q r σ' → Q2 r σ') {a : Array Value} {s : State} {o : Outcome} {t : State} (h : fb_Q E M Q a s o t) : fb_Q E M Q2 a s o t := by
  obtain ⟨y, b, n, ret, h0⟩ := M
  cases ret with
  | none =>
    obtain ⟨⟨u, c1, c2, c3⟩, c4⟩ := h
    exact ⟨⟨u, c1, hq _ _ c2, c3⟩, c4⟩
  | some ty =>
    obtain ⟨⟨r, u, c1, ⟨c5, c2⟩, c3⟩, c4⟩ := h
    exact ⟨⟨r, u, c1, ⟨c5, hq _ _ c2⟩, c3⟩, c4⟩
theorem fb_mono {Q2 : Int → fb_S → Prop} (h : fb_V E M pc ls st σ Q) (hq : ∀ r σ', Q r σ' → Q2 r σ') : fb_V E M pc ls st σ Q2 := by
  intro p e s m args below meth c H locs la C hP hS hL T hT X
  obtain ⟨t, a, o, b1, b2, b3, b4⟩ := h p e s m args below meth c H locs la C hP hS hL T hT X
  exact ⟨t, a, o, b1, b2, fb_Q_mono hq b3, b4⟩
-- BINOPS
theorem fb_idiv {x y : Int} (hd : decode M.2.1 pc = .ok (.idiv, 1)) (hx : 0 ≤ x ∧ x < 2147483648) (hy : 0 < y ∧ y < 2147483648) (k : fb_V E M (pc + 1) ls (.inl (x / y) :: st) σ Q) : fb_V E M pc ls (.inl y :: .inl x :: st) σ Q := by
  intro p e s m args below meth c H locs la C hP hS hL
  have e1 : Int32.ofInt x / Int32.ofInt y = Int32.ofInt (x / y) := by
    have ex : (Int32.ofInt x).toInt = x := fb_ti (by omega) (by omega)
    have ey : (Int32.ofInt y).toInt = y := fb_ti (by omega) (by omega)
    have hb : 0 ≤ x / y := Int.ediv_nonneg hx.1 (by omega)
    have hc : x / y ≤ x := Int.ediv_le_self _ hx.1
    apply Int32.toInt_inj.mp
    rw [Int32.toInt_div_of_ne_right, ex, ey, fb_ti (by omega) (by omega), Int.tdiv_eq_ediv_of_nonneg hx.1]
    intro h
    have := congrArg Int32.toInt h
    rw [ey] at this
    have h2 : (-1 : Int32).toInt = -1 := by decide
    omega
  refine lv_idiv C.1 C.2.1 hd (fun h => ?_) ?_
  · have := congrArg Int32.toInt h
    rw [fb_ti (by omega) (by omega)] at this
    have h2 : (0 : Int32).toInt = 0 := by decide
    omega
  · rw [e1]; exact k p e s m args below meth c H locs la C hP hS hL
theorem fb_irem {x y : Int} (hd : decode M.2.1 pc = .ok (.irem, 1)) (hx : 0 ≤ x ∧ x < 2147483648) (hy : 0 < y ∧ y < 2147483648) (k : fb_V E M (pc + 1) ls (.inl (x % y) :: st) σ Q) : fb_V E M pc ls (.inl y :: .inl x :: st) σ Q := by
  intro p e s m args below meth c H locs la C hP hS hL
  have e1 : Int32.ofInt x / Int32.ofInt y = Int32.ofInt (x / y) := by
    have ex : (Int32.ofInt x).toInt = x := fb_ti (by omega) (by omega)
    have ey : (Int32.ofInt y).toInt = y := fb_ti (by omega) (by omega)
    have hb : 0 ≤ x / y := Int.ediv_nonneg hx.1 (by omega)
    have hc : x / y ≤ x := Int.ediv_le_self _ hx.1
    apply Int32.toInt_inj.mp
    rw [Int32.toInt_div_of_ne_right, ex, ey, fb_ti (by omega) (by omega), Int.tdiv_eq_ediv_of_nonneg hx.1]
    intro h
    have := congrArg Int32.toInt h
    rw [ey] at this
    have h2 : (-1 : Int32).toInt = -1 := by decide
    omega
  refine lv_irem C.1 C.2.1 hd (fun h => ?_) ?_
  · have := congrArg Int32.toInt h
    rw [fb_ti (by omega) (by omega)] at this
    have h2 : (0 : Int32).toInt = 0 := by decide
    omega
  · rw [e1, ← Int32.ofInt_mul, ← Int32.ofInt_sub]
    have e2 : x - x / y * y = x % y := by
      have := Int.emod_add_mul_ediv x y
      have h3 : x / y * y = y * (x / y) := Int.mul_comm _ _
      omega
    rw [e2]
    exact k p e s m args below meth c H locs la C hP hS hL
/-- a mask of the lowest n bits -/
theorem fb_mask (x : Int) (n : Nat) (hn : n < 31) : Int32.ofInt x &&& Int32.ofInt (2 ^ n - 1) = Int32.ofInt (x % 2 ^ n) := by
  apply Int32.toBitVec_inj.mp
  apply BitVec.eq_of_toNat_eq
  rw [Int32.toBitVec_and, BitVec.toNat_and, Int32.toBitVec_ofInt, Int32.toBitVec_ofInt, Int32.toBitVec_ofInt, BitVec.toNat_ofInt, BitVec.toNat_ofInt, BitVec.toNat_ofInt]
  have hp : (0 : Int) < 2 ^ n := Int.pow_pos (by decide)
  have hp2 : (2 : Int) ^ n ≤ 2 ^ 30 := by
    have : (2 : Nat) ^ n ≤ 2 ^ 30 := Nat.pow_le_pow_right (by decide) (by omega)
    exact_mod_cast this
  have e1 : (((2 : Int) ^ n - 1) % ((2 ^ 32 : Nat) : Int)).toNat = 2 ^ n - 1 := by
    rw [Int.emod_eq_of_lt (by omega) (by omega)]
    have : ((2 : Nat) ^ n : Int) = (2 : Int) ^ n := by norm_cast
    omega
  have e2 : ((x % 2 ^ n) % ((2 ^ 32 : Nat) : Int)).toNat = (x % 2 ^ n).toNat := by
    have h1 := Int.emod_nonneg x (by omega : (2 : Int) ^ n ≠ 0)
    have h2 := Int.emod_lt_of_pos x hp
    rw [Int.emod_eq_of_lt h1 (by omega)]
  rw [e1, e2, Nat.and_two_pow_sub_one_eq_mod]
  have hd : (2 : Int) ^ n ∣ ((2 ^ 32 : Nat) : Int) := by
    refine ⟨2 ^ (32 - n), ?_⟩
    rw [← Int.pow_add, show n + (32 - n) = 32 by omega]
    rfl
  have h3 : x % ((2 ^ 32 : Nat) : Int) % 2 ^ n = x % 2 ^ n := Int.emod_emod_of_dvd x hd
  have h4 := Int.emod_nonneg x (by decide : ((2 ^ 32 : Nat) : Int) ≠ 0)
  have h5 : ((x % ((2 ^ 32 : Nat) : Int)).toNat % 2 ^ n : Nat) = (x % ((2 ^ 32 : Nat) : Int) % 2 ^ n).toNat := by
    rw [Int.toNat_emod h4 (by omega)]
    congr 1
  rw [h5, h3]
theorem fb_iandM {x : Int} (n : Nat) {mk p : Int} (hn : n < 31) (hm : mk = p - 1) (hp : p = 2 ^ n) (hd : decode M.2.1 pc = .ok (.iand, 1)) (k : fb_V E M (pc + 1) ls (.inl (x % p) :: st) σ Q) : fb_V E M pc ls (.inl mk :: .inl x :: st) σ Q := by
  intro p e s m args below meth c H locs la C hP hS hL
  subst hm
  subst hp
  refine lv_iand C.1 C.2.1 hd ?_
  rw [fb_mask x n hn]
  exact k p e s m args below meth c H locs la C hP hS hL
theorem fb_bits (f : BitVec 32 → BitVec 32 → BitVec 32) (g : Nat → Nat → Nat) (F : Int32 → Int32 → Int32) (hF : ∀ a b, (F a b).toBitVec = f a.toBitVec b.toBitVec) (hf : ∀ a b, (f a b).toNat = g a.toNat b.toNat) {x y : Int} (hx : 0 ≤ x ∧ x < 2147483648) (hy : 0 ≤ y ∧ y < 2147483648) : F (Int32.ofInt x) (Int32.ofInt y) = Int32.ofInt (g x.toNat y.toNat : Nat) := by
  apply Int32.toBitVec_inj.mp
  apply BitVec.eq_of_toNat_eq
  have h9 := (f (Int32.ofInt x).toBitVec (Int32.ofInt y).toBitVec).isLt
  rw [hf] at h9
  rw [hF, hf]
  rw [Int32.toBitVec_ofInt, Int32.toBitVec_ofInt, BitVec.toNat_ofInt, BitVec.toNat_ofInt] at h9 ⊢
  rw [Int32.toBitVec_ofInt, BitVec.toNat_ofInt]
  have e1 : (x % ((2 ^ 32 : Nat) : Int)).toNat = x.toNat := by rw [Int.emod_eq_of_lt hx.1 (by omega)]
  have e2 : (y % ((2 ^ 32 : Nat) : Int)).toNat = y.toNat := by rw [Int.emod_eq_of_lt hy.1 (by omega)]
  rw [e1, e2] at h9 ⊢
  rw [Int.emod_eq_of_lt (by omega) (by omega)]
  rfl
theorem fb_iand {x y : Int} (hd : decode M.2.1 pc = .ok (.iand, 1)) (hx : 0 ≤ x ∧ x < 2147483648) (hy : 0 ≤ y ∧ y < 2147483648) (k : fb_V E M (pc + 1) ls (.inl ((x.toNat &&& y.toNat : Nat) : Int) :: st) σ Q) : fb_V E M pc ls (.inl y :: .inl x :: st) σ Q := by
  intro p e s m args below meth c H locs la C hP hS hL
  refine lv_iand C.1 C.2.1 hd ?_
  rw [fb_bits (fun a b => a &&& b) (fun a b => a &&& b) (fun a b => a &&& b) (fun _ _ => rfl) (fun a b => BitVec.toNat_and a b) hx hy]
  exact k p e s m args below meth c H locs la C hP hS hL
theorem fb_ior {x y : Int} (hd : decode M.2.1 pc = .ok (.ior, 1)) (hx : 0 ≤ x ∧ x < 2147483648) (hy : 0 ≤ y ∧ y < 2147483648) (k : fb_V E M (pc + 1) ls (.inl ((x.toNat ||| y.toNat : Nat) : Int) :: st) σ Q) : fb_V E M pc ls (.inl y :: .inl x :: st) σ Q := by
  intro p e s m args below meth c H locs la C hP hS hL
  refine lv_ior C.1 C.2.1 hd ?_
  rw [fb_bits (fun a b => a ||| b) (fun a b => a ||| b) (fun a b => a ||| b) (fun _ _ => rfl) (fun a b => BitVec.toNat_or a b) hx hy]
  exact k p e s m args below meth c H locs la C hP hS hL
theorem fb_ixor {x y : Int} (hd : decode M.2.1 pc = .ok (.ixor, 1)) (hx : 0 ≤ x ∧ x < 2147483648) (hy : 0 ≤ y ∧ y < 2147483648) (k : fb_V E M (pc + 1) ls (.inl ((x.toNat ^^^ y.toNat : Nat) : Int) :: st) σ Q) : fb_V E M pc ls (.inl y :: .inl x :: st) σ Q := by
  intro p e s m args below meth c H locs la C hP hS hL
  refine lv_ixor C.1 C.2.1 hd ?_
  rw [fb_bits (fun a b => a ^^^ b) (fun a b => a ^^^ b) (fun a b => a ^^^ b) (fun _ _ => rfl) (fun a b => BitVec.toNat_xor a b) hx hy]
  exact k p e s m args below meth c H locs la C hP hS hL
theorem fb_amt : ∀ n : Nat, n < 32 → ((Int32.ofInt (n : Int) &&& 31).toBitVec.smod 32).toNat = n := by decide +kernel
theorem fb_pw : ∀ n : Nat, n < 31 → (Int32.ofInt (2 ^ n)).toBitVec.toNat = 2 ^ n := by decide +kernel
theorem fb_ishl {x y : Int} (hd : decode M.2.1 pc = .ok (.ishl, 1)) (hy : 0 ≤ y ∧ y < 31) (k : fb_V E M (pc + 1) ls (.inl (x * 2 ^ y.toNat) :: st) σ Q) : fb_V E M pc ls (.inl y :: .inl x :: st) σ Q := by
  intro p e s m args below meth c H locs la C hP hS hL
  refine lv_ishl C.1 C.2.1 hd ?_
  have e1 : Int32.ofInt x <<< (Int32.ofInt y &&& 31) = Int32.ofInt (x * 2 ^ y.toNat) := by
    have hn : y = ((y.toNat : Nat) : Int) := by omega
    have h1 := fb_amt y.toNat (by omega)
    rw [← hn] at h1
    rw [Int32.ofInt_mul]
    apply Int32.toBitVec_inj.mp
    apply BitVec.eq_of_toNat_eq
    rw [pk_shl _ _ y.toNat h1, Int32.toBitVec_mul, BitVec.toNat_mul, fb_pw y.toNat (by omega)]
  rw [e1]
  exact k p e s m args below meth c H locs la C hP hS hL
theorem fb_ishr {x y : Int} (hd : decode M.2.1 pc = .ok (.ishr, 1)) (hx : -2147483648 ≤ x ∧ x < 2147483648) (hy : 0 ≤ y ∧ y < 31) (k : fb_V E M (pc + 1) ls (.inl (x / 2 ^ y.toNat) :: st) σ Q) : fb_V E M pc ls (.inl y :: .inl x :: st) σ Q := by
  intro p e s m args below meth c H locs la C hP hS hL
  refine lv_ishr C.1 C.2.1 hd ?_
  have e1 : Int32.ofInt x >>> (Int32.ofInt y &&& 31) = Int32.ofInt (x / 2 ^ y.toNat) := by
    have hn : y = ((y.toNat : Nat) : Int) := by omega
    have h1 := fb_amt y.toNat (by omega)
    rw [← hn] at h1
    apply Int32.toInt_inj.mp
    rw [pk_shr _ _ y.toNat h1, fb_ti hx.1 hx.2, Int.shiftRight_eq_div_pow]
    have hp : (0 : Int) < 2 ^ y.toNat := Int.pow_pos (by decide)
    have h2 : x / 2 ^ y.toNat < 2147483648 := by
      apply Int.ediv_lt_of_lt_mul hp
      have : (1 : Int) ≤ 2 ^ y.toNat := hp
      have := Int.mul_le_mul_of_nonneg_left this (by decide : (0 : Int) ≤ 2147483648)
      omega
    have h3 : -2147483648 ≤ x / 2 ^ y.toNat := by
      apply Int.le_ediv_of_mul_le hp
      have : (1 : Int) ≤ 2 ^ y.toNat := hp
      have := Int.mul_le_mul_of_nonneg_left this (by decide : (0 : Int) ≤ 2147483648)
      omega
    rw [fb_ti h3 h2]
    norm_cast
  rw [e1]
  exact k p e s m args below meth c H locs la C hP hS hL
theorem fb_ishrC {x : Int} (n : Nat) {y p : Int} (hn : n < 31) (hy : y = (n : Int)) (hp : p = 2 ^ n) (hd : decode M.2.1 pc = .ok (.ishr, 1)) (hx : -2147483648 ≤ x ∧ x < 2147483648) (k : fb_V E M (pc + 1) ls (.inl (x / p) :: st) σ Q) : fb_V E M pc ls (.inl y :: .inl x :: st) σ Q := by
  subst hp
  subst hy
  exact fb_ishr hd hx ⟨by omega, by omega⟩ k
end FBR
