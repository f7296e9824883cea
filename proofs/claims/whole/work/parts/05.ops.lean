section FBO
variable {E : fb_E} {M : fb_M} {pc : Nat} {ls st : List fb_X} {σ : fb_S} {Q : Int → fb_S → Prop}
theorem fb_iadd {x y : Int} (hd : decode M.2.1 pc = .ok (.iadd, 1)) (k : fb_V E M (pc + 1) ls (.inl (x + y) :: st) σ Q) : fb_V E M pc ls (.inl y :: .inl x :: st) σ Q := by
  intro p e s m args below meth c H locs la C hP hS hL
  refine lv_iadd C.1 C.2.1 hd ?_
  rw [← Int32.ofInt_add]
  exact k p e s m args below meth c H locs la C hP hS hL
theorem fb_isub {x y : Int} (hd : decode M.2.1 pc = .ok (.isub, 1)) (k : fb_V E M (pc + 1) ls (.inl (x - y) :: st) σ Q) : fb_V E M pc ls (.inl y :: .inl x :: st) σ Q := by
  intro p e s m args below meth c H locs la C hP hS hL
  refine lv_isub C.1 C.2.1 hd ?_
  rw [← Int32.ofInt_sub]
  exact k p e s m args below meth c H locs la C hP hS hL
theorem fb_imul {x y : Int} (hd : decode M.2.1 pc = .ok (.imul, 1)) (k : fb_V E M (pc + 1) ls (.inl (x * y) :: st) σ Q) : fb_V E M pc ls (.inl y :: .inl x :: st) σ Q := by
  intro p e s m args below meth c H locs la C hP hS hL
  refine lv_imul C.1 C.2.1 hd ?_
  rw [← Int32.ofInt_mul]
  exact k p e s m args below meth c H locs la C hP hS hL
theorem fb_ineg {x : Int} (hd : decode M.2.1 pc = .ok (.ineg, 1)) (k : fb_V E M (pc + 1) ls (.inl (-x) :: st) σ Q) : fb_V E M pc ls (.inl x :: st) σ Q := by
  intro p e s m args below meth c H locs la C hP hS hL
  refine lv_ineg C.1 C.2.1 hd ?_
  rw [← Int32.ofInt_neg]
  exact k p e s m args below meth c H locs la C hP hS hL
theorem fb_cat (ad : Nat → Nat) (v : fb_X) : (fb_cv ad v).category = 1 := by cases v <;> rfl
theorem fb_rest0 (ad : Nat → Nat) (st : List fb_X) : ((st.map (fb_cv ad)).map fun v => v.category).sum = st.length := by
  induction st with
  | nil => rfl
  | cons v t ih =>
    simp only [List.map_cons, List.sum_cons, List.length_cons, fb_cat]
    rw [ih]; omega
theorem fb_dup {v : fb_X} (hd : decode M.2.1 pc = .ok (.dup, 1)) (k : fb_V E M (pc + 1) ls (v :: v :: st) σ Q) : fb_V E M pc ls (v :: st) σ Q := by
  intro p e s m args below meth c H locs la C hP hS hL
  exact lv_dup C.1 C.2.1 hd (fb_cat _ v) (k p e s m args below meth c H locs la C hP hS hL)
theorem fb_pop {v : fb_X} (hd : decode M.2.1 pc = .ok (.pop, 1)) (k : fb_V E M (pc + 1) ls st σ Q) : fb_V E M pc ls (v :: st) σ Q := by
  intro p e s m args below meth c H locs la C hP hS hL
  exact lv_pop C.1 C.2.1 hd (fb_cat _ v) (k p e s m args below meth c H locs la C hP hS hL)
theorem fb_dup_x1 {v w : fb_X} (hd : decode M.2.1 pc = .ok (.dup_x1, 1)) (k : fb_V E M (pc + 1) ls (v :: w :: v :: st) σ Q) : fb_V E M pc ls (v :: w :: st) σ Q := by
  intro p e s m args below meth c H locs la C hP hS hL
  exact lv_dup_x1 C.1 C.2.1 hd (fb_cat _ v) (fb_cat _ w) (k p e s m args below meth c H locs la C hP hS hL)
theorem fb_dup_x2 {v w z : fb_X} (hd : decode M.2.1 pc = .ok (.dup_x2, 1)) (k : fb_V E M (pc + 1) ls (v :: w :: z :: v :: st) σ Q) : fb_V E M pc ls (v :: w :: z :: st) σ Q := by
  intro p e s m args below meth c H locs la C hP hS hL
  exact lv_dup_x2 C.1 C.2.1 hd (fb_cat _ v) (fb_cat _ w) (fb_cat _ z) (k p e s m args below meth c H locs la C hP hS hL)
theorem fb_dup2 {v w : fb_X} (hd : decode M.2.1 pc = .ok (.dup2, 1)) (k : fb_V E M (pc + 1) ls (v :: w :: v :: w :: st) σ Q) : fb_V E M pc ls (v :: w :: st) σ Q := by
  intro p e s m args below meth c H locs la C hP hS hL
  exact lv_dup2_11 C.1 C.2.1 hd (fb_cat _ v) (fb_cat _ w) (k p e s m args below meth c H locs la C hP hS hL)
theorem fb_iconst {n : Int} (hd : decode M.2.1 pc = .ok (.iconst n, 1)) (k : fb_V E M (pc + 1) ls (.inl n :: st) σ Q) : fb_V E M pc ls st σ Q := by
  intro p e s m args below meth c H locs la C hP hS hL
  exact lv_iconst C.1 C.2.1 hd rfl (k p e s m args below meth c H locs la C hP hS hL)
theorem fb_bipush {n : Int} (hd : decode M.2.1 pc = .ok (.bipush n, 2)) (hn : (Int8.ofInt n).toInt32 = Int32.ofInt n) (k : fb_V E M (pc + 2) ls (.inl n :: st) σ Q) : fb_V E M pc ls st σ Q := by
  intro p e s m args below meth c H locs la C hP hS hL
  exact lv_bipush C.1 C.2.1 hd hn (k p e s m args below meth c H locs la C hP hS hL)
theorem fb_sipush {n : Int} (hd : decode M.2.1 pc = .ok (.sipush n, 3)) (hn : (Int16.ofInt n).toInt32 = Int32.ofInt n) (k : fb_V E M (pc + 3) ls (.inl n :: st) σ Q) : fb_V E M pc ls st σ Q := by
  intro p e s m args below meth c H locs la C hP hS hL
  exact lv_sipush C.1 C.2.1 hd hn (k p e s m args below meth c H locs la C hP hS hL)
theorem fb_ldc {i : Nat} {n : Int} (hd : decode M.2.1 pc = .ok (.ldc i, 2)) (hw : Cond.constant M.1.cls i (Int32.ofInt n) ∈ fb_WA) (k : fb_V E M (pc + 2) ls (.inl n :: st) σ Q) : fb_V E M pc ls st σ Q := by
  intro p e s m args below meth c H locs la C hP hS hL
  exact lv_ldc C.1 C.2.1 C.2.2.2.2.1 (C.2.2.2.2.2.1 _ (List.mem_cons_of_mem _ hw)) hd (k p e s m args below meth c H locs la C hP hS hL)
theorem fb_iload {i : Nat} {x : Int} (hd : decode M.2.1 pc = .ok (.iload i, 2)) (hl : ls[i]? = some (.inl x)) (k : fb_V E M (pc + 2) ls (.inl x :: st) σ Q) : fb_V E M pc ls st σ Q := by
  intro p e s m args below meth c H locs la C hP hS hL
  exact lv_iload C.1 C.2.1 hd (hL.int hl) (k p e s m args below meth c H locs la C hP hS hL)
theorem fb_iload_n {i : Fin 4} {x : Int} (hd : decode M.2.1 pc = .ok (.iload_n i, 1)) (hl : ls[(i : Nat)]? = some (.inl x)) (k : fb_V E M (pc + 1) ls (.inl x :: st) σ Q) : fb_V E M pc ls st σ Q := by
  intro p e s m args below meth c H locs la C hP hS hL
  exact lv_iload_n C.1 C.2.1 hd rfl (hL.int hl) (k p e s m args below meth c H locs la C hP hS hL)
theorem fb_aload {i j : Nat} (hd : decode M.2.1 pc = .ok (.aload i, 2)) (hl : ls[i]? = some (.inr j)) (hj : j ≠ 999) (k : fb_V E M (pc + 2) ls (.inr j :: st) σ Q) : fb_V E M pc ls st σ Q := by
  intro p e s m args below meth c H locs la C hP hS hL
  exact lv_aload C.1 C.2.1 hd (hL.ref hl hj) (k p e s m args below meth c H locs la C hP hS hL)
theorem fb_aload_n {i : Fin 4} {j : Nat} (hd : decode M.2.1 pc = .ok (.aload_n i, 1)) (hl : ls[(i : Nat)]? = some (.inr j)) (hj : j ≠ 999) (k : fb_V E M (pc + 1) ls (.inr j :: st) σ Q) : fb_V E M pc ls st σ Q := by
  intro p e s m args below meth c H locs la C hP hS hL
  exact lv_aload_n C.1 C.2.1 hd rfl (hL.ref hl hj) (k p e s m args below meth c H locs la C hP hS hL)
theorem fb_istore {i : Nat} {x : Int} {ls' : List fb_X} (hd : decode M.2.1 pc = .ok (.istore i, 2)) (hi : Nat.ble (i + 1) ls.length = true) (hm : ls.length = M.2.2.1) (hl : ls.set i (.inl x) = ls') (k : fb_V E M (pc + 2) ls' st σ Q) : fb_V E M pc ls (.inl x :: st) σ Q := by
  intro p e s m args below meth c H locs la C hP hS hL
  subst hl
  have hi := Nat.le_of_ble_eq_true hi
  exact lv_istore C.1 C.2.1 hd hL.has (by omega) rfl (fun la' h => k p e s m args below meth c H locs la' C hP hS (fb_L.stored (w := .inl x) hi rfl h))
theorem fb_istore_n {i : Fin 4} {x : Int} {ls' : List fb_X} (hd : decode M.2.1 pc = .ok (.istore_n i, 1)) (hi : Nat.ble ((i : Nat) + 1) ls.length = true) (hm : ls.length = M.2.2.1) (hl : ls.set (i : Nat) (.inl x) = ls') (k : fb_V E M (pc + 1) ls' st σ Q) : fb_V E M pc ls (.inl x :: st) σ Q := by
  intro p e s m args below meth c H locs la C hP hS hL
  subst hl
  have hi := Nat.le_of_ble_eq_true hi
  exact lv_istore_n C.1 C.2.1 hd rfl hL.has (by omega) rfl (fun la' h => k p e s m args below meth c H locs la' C hP hS (fb_L.stored (w := .inl x) hi rfl h))
theorem fb_astore {i : Nat} {x : Nat} {ls' : List fb_X} (hd : decode M.2.1 pc = .ok (.astore i, 2)) (hi : Nat.ble (i + 1) ls.length = true) (hm : ls.length = M.2.2.1) (hl : ls.set i (.inr x) = ls') (k : fb_V E M (pc + 2) ls' st σ Q) : fb_V E M pc ls (.inr x :: st) σ Q := by
  intro p e s m args below meth c H locs la C hP hS hL
  subst hl
  have hi := Nat.le_of_ble_eq_true hi
  exact lv_astore C.1 C.2.1 hd hL.has (by omega) rfl (fun la' h => k p e s m args below meth c H locs la' C hP hS (fb_L.stored (w := .inr x) hi rfl h))
theorem fb_astore_n {i : Fin 4} {x : Nat} {ls' : List fb_X} (hd : decode M.2.1 pc = .ok (.astore_n i, 1)) (hi : Nat.ble ((i : Nat) + 1) ls.length = true) (hm : ls.length = M.2.2.1) (hl : ls.set (i : Nat) (.inr x) = ls') (k : fb_V E M (pc + 1) ls' st σ Q) : fb_V E M pc ls (.inr x :: st) σ Q := by
  intro p e s m args below meth c H locs la C hP hS hL
  subst hl
  have hi := Nat.le_of_ble_eq_true hi
  exact lv_astore_n C.1 C.2.1 hd rfl hL.has (by omega) rfl (fun la' h => k p e s m args below meth c H locs la' C hP hS (fb_L.stored (w := .inr x) hi rfl h))
theorem fb_iinc {i : Nat} {n x : Int} {ls' : List fb_X} (hd : decode M.2.1 pc = .ok (.iinc i n, 3)) (hx : ls[i]? = some (.inl x)) (hm : ls.length = M.2.2.1) (hl : ls.set i (.inl (x + n)) = ls') (k : fb_V E M (pc + 3) ls' st σ Q) : fb_V E M pc ls st σ Q := by
  intro p e s m args below meth c H locs la C hP hS hL
  subst hl
  have hi := (List.getElem?_eq_some_iff.mp hx).1
  have hmem : (i, Value.int (Int32.ofInt x)) ∈ fb_lv E ls := List.mem_filterMap.mpr ⟨i, List.mem_range.mpr hi, by simp [fb_one, hx]⟩
  obtain ⟨q, hq⟩ := List.getElem?_of_mem hmem
  exact lv_iinc C.1 C.2.1 hd hL.has hq (Int32.ofInt_add x n).symm (by omega) rfl (fun la' h => k p e s m args below meth c H locs la' C hP hS (fb_L.stored (w := .inl (x + n)) hi rfl h))
theorem fb_if_eq {x : Int} {off : Int} {tgt : Nat} (hd : decode M.2.1 pc = .ok (.ifCond .eq off, 3)) (ht : (pc : Int) + off = (tgt : Int)) (hx : -2147483648 ≤ x ∧ x < 2147483648) (kt : x = 0 → fb_V E M tgt ls st σ Q) (kf : ¬ x = 0 → fb_V E M (pc + 3) ls st σ Q) : fb_V E M pc ls (.inl x :: st) σ Q := by
  intro p e s m args below meth c H locs la C hP hS hL
  exact lv_if_eq C.1 C.2.1 hd ht (fun h => kt ((fun h => (fb_eq_iff hx (by decide)).mp h) h) p e s m args below meth c H locs la C hP hS hL) (fun h => kf ((fun h => mt (fb_eq_iff hx (by decide)).mpr h) h) p e s m args below meth c H locs la C hP hS hL)
theorem fb_if_ne {x : Int} {off : Int} {tgt : Nat} (hd : decode M.2.1 pc = .ok (.ifCond .ne off, 3)) (ht : (pc : Int) + off = (tgt : Int)) (hx : -2147483648 ≤ x ∧ x < 2147483648) (kt : ¬ x = 0 → fb_V E M tgt ls st σ Q) (kf : x = 0 → fb_V E M (pc + 3) ls st σ Q) : fb_V E M pc ls (.inl x :: st) σ Q := by
  intro p e s m args below meth c H locs la C hP hS hL
  exact lv_if_ne C.1 C.2.1 hd ht (fun h => kt ((fun h => mt (fb_eq_iff hx (by decide)).mpr h) h) p e s m args below meth c H locs la C hP hS hL) (fun h => kf ((fun h => (fb_eq_iff hx (by decide)).mp h) h) p e s m args below meth c H locs la C hP hS hL)
theorem fb_if_lt {x : Int} {off : Int} {tgt : Nat} (hd : decode M.2.1 pc = .ok (.ifCond .lt off, 3)) (ht : (pc : Int) + off = (tgt : Int)) (hx : -2147483648 ≤ x ∧ x < 2147483648) (kt : x < 0 → fb_V E M tgt ls st σ Q) (kf : ¬ x < 0 → fb_V E M (pc + 3) ls st σ Q) : fb_V E M pc ls (.inl x :: st) σ Q := by
  intro p e s m args below meth c H locs la C hP hS hL
  exact lv_if_lt C.1 C.2.1 hd ht (fun h => kt ((fun h => (fb_lt_iff hx (by decide)).mp h) h) p e s m args below meth c H locs la C hP hS hL) (fun h => kf ((fun h => mt (fb_lt_iff hx (by decide)).mpr h) h) p e s m args below meth c H locs la C hP hS hL)
theorem fb_if_ge {x : Int} {off : Int} {tgt : Nat} (hd : decode M.2.1 pc = .ok (.ifCond .ge off, 3)) (ht : (pc : Int) + off = (tgt : Int)) (hx : -2147483648 ≤ x ∧ x < 2147483648) (kt : 0 ≤ x → fb_V E M tgt ls st σ Q) (kf : ¬ 0 ≤ x → fb_V E M (pc + 3) ls st σ Q) : fb_V E M pc ls (.inl x :: st) σ Q := by
  intro p e s m args below meth c H locs la C hP hS hL
  exact lv_if_ge C.1 C.2.1 hd ht (fun h => kt ((fun h => (fb_le_iff (by decide) hx).mp h) h) p e s m args below meth c H locs la C hP hS hL) (fun h => kf ((fun h => mt (fb_le_iff (by decide) hx).mpr h) h) p e s m args below meth c H locs la C hP hS hL)
theorem fb_if_gt {x : Int} {off : Int} {tgt : Nat} (hd : decode M.2.1 pc = .ok (.ifCond .gt off, 3)) (ht : (pc : Int) + off = (tgt : Int)) (hx : -2147483648 ≤ x ∧ x < 2147483648) (kt : 0 < x → fb_V E M tgt ls st σ Q) (kf : ¬ 0 < x → fb_V E M (pc + 3) ls st σ Q) : fb_V E M pc ls (.inl x :: st) σ Q := by
  intro p e s m args below meth c H locs la C hP hS hL
  exact lv_if_gt C.1 C.2.1 hd ht (fun h => kt ((fun h => (fb_lt_iff (by decide) hx).mp h) h) p e s m args below meth c H locs la C hP hS hL) (fun h => kf ((fun h => mt (fb_lt_iff (by decide) hx).mpr h) h) p e s m args below meth c H locs la C hP hS hL)
theorem fb_if_le {x : Int} {off : Int} {tgt : Nat} (hd : decode M.2.1 pc = .ok (.ifCond .le off, 3)) (ht : (pc : Int) + off = (tgt : Int)) (hx : -2147483648 ≤ x ∧ x < 2147483648) (kt : x ≤ 0 → fb_V E M tgt ls st σ Q) (kf : ¬ x ≤ 0 → fb_V E M (pc + 3) ls st σ Q) : fb_V E M pc ls (.inl x :: st) σ Q := by
  intro p e s m args below meth c H locs la C hP hS hL
  exact lv_if_le C.1 C.2.1 hd ht (fun h => kt ((fun h => (fb_le_iff hx (by decide)).mp h) h) p e s m args below meth c H locs la C hP hS hL) (fun h => kf ((fun h => mt (fb_le_iff hx (by decide)).mpr h) h) p e s m args below meth c H locs la C hP hS hL)
theorem fb_icmp_eq {x y : Int} {off : Int} {tgt : Nat} (hd : decode M.2.1 pc = .ok (.if_icmp .eq off, 3)) (ht : (pc : Int) + off = (tgt : Int)) (hx : -2147483648 ≤ x ∧ x < 2147483648) (hy : -2147483648 ≤ y ∧ y < 2147483648) (kt : x = y → fb_V E M tgt ls st σ Q) (kf : ¬ x = y → fb_V E M (pc + 3) ls st σ Q) : fb_V E M pc ls (.inl y :: .inl x :: st) σ Q := by
  intro p e s m args below meth c H locs la C hP hS hL
  exact lv_icmp_eq C.1 C.2.1 hd ht (fun h => kt ((fun h => (fb_eq_iff hx hy).mp h) h) p e s m args below meth c H locs la C hP hS hL) (fun h => kf ((fun h => mt (fb_eq_iff hx hy).mpr h) h) p e s m args below meth c H locs la C hP hS hL)
theorem fb_icmp_ne {x y : Int} {off : Int} {tgt : Nat} (hd : decode M.2.1 pc = .ok (.if_icmp .ne off, 3)) (ht : (pc : Int) + off = (tgt : Int)) (hx : -2147483648 ≤ x ∧ x < 2147483648) (hy : -2147483648 ≤ y ∧ y < 2147483648) (kt : ¬ x = y → fb_V E M tgt ls st σ Q) (kf : x = y → fb_V E M (pc + 3) ls st σ Q) : fb_V E M pc ls (.inl y :: .inl x :: st) σ Q := by
  intro p e s m args below meth c H locs la C hP hS hL
  exact lv_icmp_ne C.1 C.2.1 hd ht (fun h => kt ((fun h => mt (fb_eq_iff hx hy).mpr h) h) p e s m args below meth c H locs la C hP hS hL) (fun h => kf ((fun h => (fb_eq_iff hx hy).mp h) h) p e s m args below meth c H locs la C hP hS hL)
theorem fb_icmp_lt {x y : Int} {off : Int} {tgt : Nat} (hd : decode M.2.1 pc = .ok (.if_icmp .lt off, 3)) (ht : (pc : Int) + off = (tgt : Int)) (hx : -2147483648 ≤ x ∧ x < 2147483648) (hy : -2147483648 ≤ y ∧ y < 2147483648) (kt : x < y → fb_V E M tgt ls st σ Q) (kf : ¬ x < y → fb_V E M (pc + 3) ls st σ Q) : fb_V E M pc ls (.inl y :: .inl x :: st) σ Q := by
  intro p e s m args below meth c H locs la C hP hS hL
  exact lv_icmp_lt C.1 C.2.1 hd ht (fun h => kt ((fun h => (fb_lt_iff hx hy).mp h) h) p e s m args below meth c H locs la C hP hS hL) (fun h => kf ((fun h => mt (fb_lt_iff hx hy).mpr h) h) p e s m args below meth c H locs la C hP hS hL)
theorem fb_icmp_ge {x y : Int} {off : Int} {tgt : Nat} (hd : decode M.2.1 pc = .ok (.if_icmp .ge off, 3)) (ht : (pc : Int) + off = (tgt : Int)) (hx : -2147483648 ≤ x ∧ x < 2147483648) (hy : -2147483648 ≤ y ∧ y < 2147483648) (kt : y ≤ x → fb_V E M tgt ls st σ Q) (kf : ¬ y ≤ x → fb_V E M (pc + 3) ls st σ Q) : fb_V E M pc ls (.inl y :: .inl x :: st) σ Q := by
  intro p e s m args below meth c H locs la C hP hS hL
  exact lv_icmp_ge C.1 C.2.1 hd ht (fun h => kt ((fun h => (fb_le_iff hy hx).mp h) h) p e s m args below meth c H locs la C hP hS hL) (fun h => kf ((fun h => mt (fb_le_iff hy hx).mpr h) h) p e s m args below meth c H locs la C hP hS hL)
theorem fb_icmp_gt {x y : Int} {off : Int} {tgt : Nat} (hd : decode M.2.1 pc = .ok (.if_icmp .gt off, 3)) (ht : (pc : Int) + off = (tgt : Int)) (hx : -2147483648 ≤ x ∧ x < 2147483648) (hy : -2147483648 ≤ y ∧ y < 2147483648) (kt : y < x → fb_V E M tgt ls st σ Q) (kf : ¬ y < x → fb_V E M (pc + 3) ls st σ Q) : fb_V E M pc ls (.inl y :: .inl x :: st) σ Q := by
  intro p e s m args below meth c H locs la C hP hS hL
  exact lv_icmp_gt C.1 C.2.1 hd ht (fun h => kt ((fun h => (fb_lt_iff hy hx).mp h) h) p e s m args below meth c H locs la C hP hS hL) (fun h => kf ((fun h => mt (fb_lt_iff hy hx).mpr h) h) p e s m args below meth c H locs la C hP hS hL)
theorem fb_icmp_le {x y : Int} {off : Int} {tgt : Nat} (hd : decode M.2.1 pc = .ok (.if_icmp .le off, 3)) (ht : (pc : Int) + off = (tgt : Int)) (hx : -2147483648 ≤ x ∧ x < 2147483648) (hy : -2147483648 ≤ y ∧ y < 2147483648) (kt : x ≤ y → fb_V E M tgt ls st σ Q) (kf : ¬ x ≤ y → fb_V E M (pc + 3) ls st σ Q) : fb_V E M pc ls (.inl y :: .inl x :: st) σ Q := by
  intro p e s m args below meth c H locs la C hP hS hL
  exact lv_icmp_le C.1 C.2.1 hd ht (fun h => kt ((fun h => (fb_le_iff hx hy).mp h) h) p e s m args below meth c H locs la C hP hS hL) (fun h => kf ((fun h => mt (fb_le_iff hx hy).mpr h) h) p e s m args below meth c H locs la C hP hS hL)
theorem fb_goto {off : Int} {tgt : Nat} (hd : decode M.2.1 pc = .ok (.goto off, 3)) (ht : (pc : Int) + off = (tgt : Int)) (k : fb_V E M tgt ls st σ Q) : fb_V E M pc ls st σ Q := by
  intro p e s m args below meth c H locs la C hP hS hL
  exact lv_goto C.1 C.2.1 hd ht (k p e s m args below meth c H locs la C hP hS hL)
theorem fb_tsIn {dflt lo hi : Int} {offs : Array Int} {len : Nat} {x : Int} (off : Int) {tgt : Nat} (hd : decode M.2.1 pc = .ok (.tableswitch dflt lo hi offs, len)) (hx : -2147483648 ≤ x ∧ x < 2147483648) (h1 : lo ≤ x) (h2 : x ≤ hi) (ho : offs[(x - lo).toNat]? = some off) (ht : (pc : Int) + off = (tgt : Int)) (k : fb_V E M tgt ls st σ Q) : fb_V E M pc ls (.inl x :: st) σ Q := by
  intro p e s m args below meth c H locs la C hP hS hL
  have e1 := fb_ti hx.1 hx.2
  exact lv_tableIn C.1 C.2.1 hd (by rw [e1]; omega) (by rw [e1]; omega) (by rw [e1]; exact ho) ht (k p e s m args below meth c H locs la C hP hS hL)
theorem fb_tsOut {dflt lo hi : Int} {offs : Array Int} {len : Nat} {x : Int} {tgt : Nat} (hd : decode M.2.1 pc = .ok (.tableswitch dflt lo hi offs, len)) (hx : -2147483648 ≤ x ∧ x < 2147483648) (h : x < lo ∨ hi < x) (ht : (pc : Int) + dflt = (tgt : Int)) (k : fb_V E M tgt ls st σ Q) : fb_V E M pc ls (.inl x :: st) σ Q := by
  intro p e s m args below meth c H locs la C hP hS hL
  have e1 := fb_ti hx.1 hx.2
  exact lv_tableOut C.1 C.2.1 hd (by rw [e1]; exact h) ht (k p e s m args below meth c H locs la C hP hS hL)
theorem fb_look {dflt : Int} {ps : Array (Int × Int)} {len : Nat} {x : Int} (off : Int) {tgt : Nat} (hd : decode M.2.1 pc = .ok (.lookupswitch dflt ps, len)) (hx : -2147483648 ≤ x ∧ x < 2147483648) (hp : (ps.toList.zip (ps.toList.drop 1)).all (fun (a, next) => a.1 < next.1) = true) (ho : Op.lookupswitch.offset ps.toList dflt x = off) (ht : (pc : Int) + off = (tgt : Int)) (k : fb_V E M tgt ls st σ Q) : fb_V E M pc ls (.inl x :: st) σ Q := by
  intro p e s m args below meth c H locs la C hP hS hL
  have e1 := fb_ti hx.1 hx.2
  exact lv_lookup C.1 C.2.1 hd hp (by rw [e1]; exact ho) ht (k p e s m args below meth c H locs la C hP hS hL)
/-- a field's link: a word of the tables, or of the nest -/
def fb_lk (C : String) (idx : Nat) (T : u_T) (k : Nat) : Prop := Cond.fieldLink C idx (T k).1 (T k).2.1 (T k).2.2.1 ∈ fb_WA ∨ Cond.fieldLinkNest C idx (T k).1 (T k).2.1 (T k).2.2.1 "FrameBackEnd" ∈ fb_NW
theorem fb_Nw {E : fb_E} {M : fb_M} {p : Program} {s : State} {m : MethodId} {args : Array Value} {meth : Method} {c : Code} (C : fb_C E M p s m args meth c) {w : Cond} (hw : w ∈ fb_NW) (ho : w.onTables = true) : w.before args s = true := va_Nw.use ho (C.2.2.2.2.2.2.2.2.2.2.1 w hw)
theorem fb_cl_ws {ci : Nat} {C : String} {T : u_T} {N : Nat} (hc : fb_cl[ci]? = some (C, T, N)) : ∀ w ∈ u_ws C T N, w ∈ fb_WA := by
  have h : ∀ q ∈ fb_cl, ∀ w ∈ u_ws q.1 q.2.1 q.2.2, w ∈ fb_WA := fb_cl_ok
  exact h _ (List.mem_of_getElem? hc)
theorem fb_getI {x : Int} (k i : Nat) {ci idx : Nat} {fds : List (Option Nat)} {R : String} {T : u_T} {N : Nat} (hd : decode M.2.1 pc = .ok (.getfield idx, 3)) (hk : fb_shp[k]? = some (0, ci, fds)) (hf : fds[i]? = some none) (hc : fb_cl[ci]? = some (R, T, N)) (hi : i < N) (hl : fb_lk M.1.cls idx T i) (hx : σ.1 (32 * k + i) = x) (kk : fb_V E M (pc + 3) ls (.inl x :: st) σ Q) : fb_V E M pc ls (.inr k :: st) σ Q := by
  intro p e s m args below meth c H locs la C hP hS hL
  subst hx
  have hts := C.2.2.2.2.2.1
  have hin : ∀ w ∈ u_ws R T N, w ∈ fb_ws M := fun w hw => List.mem_cons_of_mem _ (fb_cl_ws hc w hw)
  have hK := C.2.2.2.2.2.2.2.2.1
  rcases hl with hl | hl
  · exact va_get C.1 C.2.1 hts hin C.2.2.2.2.1 hK hP k (fb_W_at hk) hc i hi (hts _ (List.mem_cons_of_mem _ hl)) (fun _ h => h) (v := .int (Int32.ofInt (σ.1 (32 * k + i)))) (by rw [List.getElem?_mapIdx, hf]; rfl) hd (kk p e s m args below meth c H locs la C hP hS hL)
  · exact va_getN C.1 C.2.1 hts hin C.2.2.2.2.1 hK hP k (fb_W_at hk) hc i hi (fb_Nw C hl rfl) (fun _ h => h) (v := .int (Int32.ofInt (σ.1 (32 * k + i)))) (by rw [List.getElem?_mapIdx, hf]; rfl) hd (kk p e s m args below meth c H locs la C hP hS hL)
theorem fb_getR (k i : Nat) {ci idx j : Nat} {fds : List (Option Nat)} {R : String} {T : u_T} {N : Nat} (hd : decode M.2.1 pc = .ok (.getfield idx, 3)) (hk : fb_shp[k]? = some (0, ci, fds)) (hf : fds[i]? = some (some j)) (hc : fb_cl[ci]? = some (R, T, N)) (hi : i < N) (hl : fb_lk M.1.cls idx T i) (kk : fb_V E M (pc + 3) ls (.inr j :: st) σ Q) : fb_V E M pc ls (.inr k :: st) σ Q := by
  intro p e s m args below meth c H locs la C hP hS hL
  have hts := C.2.2.2.2.2.1
  have hin : ∀ w ∈ u_ws R T N, w ∈ fb_ws M := fun w hw => List.mem_cons_of_mem _ (fb_cl_ws hc w hw)
  have hK := C.2.2.2.2.2.2.2.2.1
  rcases hl with hl | hl
  · exact va_get C.1 C.2.1 hts hin C.2.2.2.2.1 hK hP k (fb_W_at hk) hc i hi (hts _ (List.mem_cons_of_mem _ hl)) (fun _ h => h) (v := .ref (E.2.2.1 j)) (by rw [List.getElem?_mapIdx, hf]; rfl) hd (kk p e s m args below meth c H locs la C hP hS hL)
  · exact va_getN C.1 C.2.1 hts hin C.2.2.2.2.1 hK hP k (fb_W_at hk) hc i hi (fb_Nw C hl rfl) (fun _ h => h) (v := .ref (E.2.2.1 j)) (by rw [List.getElem?_mapIdx, hf]; rfl) hd (kk p e s m args below meth c H locs la C hP hS hL)
theorem fb_putI (k i : Nat) {ci idx : Nat} {x : Int} {fds : List (Option Nat)} {R : String} {T : u_T} {N : Nat} (hd : decode M.2.1 pc = .ok (.putfield idx, 3)) (hk : fb_shp[k]? = some (0, ci, fds)) (hf : fds[i]? = some none) (hc : fb_cl[ci]? = some (R, T, N)) (hi : i < N) (hfin : (T i).2.2.2 = false) (hty : parseFieldDescriptor (T i).2.2.1 = some .int) (hl : fb_lk M.1.cls idx T i) (kk : fb_V E M (pc + 3) ls st (fb_sg σ (32 * k + i) x) Q) : fb_V E M pc ls (.inl x :: .inr k :: st) σ Q := by
  intro p e s m args below meth c H locs la C hP hS hL
  have hnr : narrow .int (.int (Int32.ofInt x)) = .int (Int32.ofInt x) := rfl
  have hft : fits .int (.int (Int32.ofInt x)) = true := rfl
  have hts := C.2.2.2.2.2.1
  have hin : ∀ w ∈ u_ws R T N, w ∈ fb_ws M := fun w hw => List.mem_cons_of_mem _ (fb_cl_ws hc w hw)
  have hK := C.2.2.2.2.2.2.2.2.1
  have hD := fb_HD C.2.2.2.2.2.2.2.1 σ
  obtain ⟨t0, ht0, hn0⟩ := fb_cl_ty hc
  have hll : i < (fds.mapIdx (fb_fv E.2.2.1 σ k)).length := by rw [List.length_mapIdx]; exact (List.getElem?_eq_some_iff.mp hf).1
  rcases hl with hl | hl
  · refine va_put C.1 C.2.1 hts hin t0 ht0 hn0 C.2.2.2.2.1 hK hP hD hS k (fb_W_at hk) hc i hi (hts _ (List.mem_cons_of_mem _ hl)) (fun _ h => h) hfin hty hnr hft hll hd (fun H1 locs1 hP1 _ hS1 => ?_)
    have hP2 : va_P E.2.1 fb_cl (fb_W E (fb_sg σ (32 * k + i) x)) H1 := by rw [← fb_set_g hk hf]; exact hP1
    exact kk p e s m args below meth c H1 locs1 la C hP2 hS1 hL
  · refine va_putN C.1 C.2.1 hts hin t0 ht0 hn0 C.2.2.2.2.1 hK hP hD hS k (fb_W_at hk) hc i hi (fb_Nw C hl rfl) (fun _ h => h) hfin hty hnr hft hll hd (fun H1 locs1 hP1 _ hS1 => ?_)
    have hP2 : va_P E.2.1 fb_cl (fb_W E (fb_sg σ (32 * k + i) x)) H1 := by rw [← fb_set_g hk hf]; exact hP1
    exact kk p e s m args below meth c H1 locs1 la C hP2 hS1 hL
theorem fb_putZ (k i : Nat) {ci idx : Nat} {x : Int} {fds : List (Option Nat)} {R : String} {T : u_T} {N : Nat} (hd : decode M.2.1 pc = .ok (.putfield idx, 3)) (hx : x = 0 ∨ x = 1) (hk : fb_shp[k]? = some (0, ci, fds)) (hf : fds[i]? = some none) (hc : fb_cl[ci]? = some (R, T, N)) (hi : i < N) (hfin : (T i).2.2.2 = false) (hty : parseFieldDescriptor (T i).2.2.1 = some .boolean) (hl : fb_lk M.1.cls idx T i) (kk : fb_V E M (pc + 3) ls st (fb_sg σ (32 * k + i) x) Q) : fb_V E M pc ls (.inl x :: .inr k :: st) σ Q := by
  intro p e s m args below meth c H locs la C hP hS hL
  have hnr : narrow .boolean (.int (Int32.ofInt x)) = .int (Int32.ofInt x) := by rcases hx with rfl | rfl <;> rfl
  have hft : fits .boolean (.int (Int32.ofInt x)) = true := by rcases hx with rfl | rfl <;> rfl
  have hts := C.2.2.2.2.2.1
  have hin : ∀ w ∈ u_ws R T N, w ∈ fb_ws M := fun w hw => List.mem_cons_of_mem _ (fb_cl_ws hc w hw)
  have hK := C.2.2.2.2.2.2.2.2.1
  have hD := fb_HD C.2.2.2.2.2.2.2.1 σ
  obtain ⟨t0, ht0, hn0⟩ := fb_cl_ty hc
  have hll : i < (fds.mapIdx (fb_fv E.2.2.1 σ k)).length := by rw [List.length_mapIdx]; exact (List.getElem?_eq_some_iff.mp hf).1
  rcases hl with hl | hl
  · refine va_put C.1 C.2.1 hts hin t0 ht0 hn0 C.2.2.2.2.1 hK hP hD hS k (fb_W_at hk) hc i hi (hts _ (List.mem_cons_of_mem _ hl)) (fun _ h => h) hfin hty hnr hft hll hd (fun H1 locs1 hP1 _ hS1 => ?_)
    have hP2 : va_P E.2.1 fb_cl (fb_W E (fb_sg σ (32 * k + i) x)) H1 := by rw [← fb_set_g hk hf]; exact hP1
    exact kk p e s m args below meth c H1 locs1 la C hP2 hS1 hL
  · refine va_putN C.1 C.2.1 hts hin t0 ht0 hn0 C.2.2.2.2.1 hK hP hD hS k (fb_W_at hk) hc i hi (fb_Nw C hl rfl) (fun _ h => h) hfin hty hnr hft hll hd (fun H1 locs1 hP1 _ hS1 => ?_)
    have hP2 : va_P E.2.1 fb_cl (fb_W E (fb_sg σ (32 * k + i) x)) H1 := by rw [← fb_set_g hk hf]; exact hP1
    exact kk p e s m args below meth c H1 locs1 la C hP2 hS1 hL
theorem fb_ild {k n : Nat} {i x : Int} {r : List (Option Nat)} (hd : decode M.2.1 pc = .ok (.iaload, 1)) (hk : fb_shp[k]? = some (1, n, r)) (hi : 0 ≤ i ∧ i < n) (hx : σ.2 k i = x) (kk : fb_V E M (pc + 1) ls (.inl x :: st) σ Q) : fb_V E M pc ls (.inl i :: .inr k :: st) σ Q := by
  intro p e s m args below meth c H locs la C hP hS hL
  subst hx
  obtain ⟨h1, h2⟩ := fb_in hi.1 hi.2 (fb_len hk)
  refine va_iald C.1 C.2.1 C.2.2.2.2.2.2.2.2.1 hP k 0 (fb_W_at hk) rfl h1 hd ?_
  have h3 : ((i.toNat : Nat) : Int) = i := by omega
  rw [h2, h3]
  exact kk p e s m args below meth c H locs la C hP hS hL
theorem fb_zld {k n : Nat} {i x : Int} {r : List (Option Nat)} (hd : decode M.2.1 pc = .ok (.baload, 1)) (hk : fb_shp[k]? = some (2, n, r)) (hi : 0 ≤ i ∧ i < n) (hx : σ.2 k i = x) (kk : fb_V E M (pc + 1) ls (.inl x :: st) σ Q) : fb_V E M pc ls (.inl i :: .inr k :: st) σ Q := by
  intro p e s m args below meth c H locs la C hP hS hL
  subst hx
  obtain ⟨h1, h2⟩ := fb_in hi.1 hi.2 (fb_len hk)
  refine va_zald C.1 C.2.1 C.2.2.2.2.2.2.2.2.1 hP k 1 (fb_W_at hk) rfl h1 hd ?_
  have h3 : ((i.toNat : Nat) : Int) = i := by omega
  rw [h2, h3]
  exact kk p e s m args below meth c H locs la C hP hS hL
theorem fb_ist {k n : Nat} {i x : Int} {r : List (Option Nat)} (hd : decode M.2.1 pc = .ok (.iastore, 1)) (hk : fb_shp[k]? = some (1, n, r)) (hi : 0 ≤ i ∧ i < n) (kk : fb_V E M (pc + 1) ls st (fb_sm σ k i x) Q) : fb_V E M pc ls (.inl x :: .inl i :: .inr k :: st) σ Q := by
  intro p e s m args below meth c H locs la C hP hS hL
  obtain ⟨h1, h2⟩ := fb_in hi.1 hi.2 (fb_len hk)
  refine va_iast C.1 C.2.1 C.2.2.2.2.2.2.2.2.1 hP (fb_HD C.2.2.2.2.2.2.2.1 σ) hS k 0 (fb_W_at hk) rfl h1 hd (fun H1 locs1 hP1 _ hS1 => ?_)
  rw [h2, fb_set_m hk hi.1] at hP1
  exact kk p e s m args below meth c H1 locs1 la C hP1 hS1 hL
theorem fb_zst {k n : Nat} {i x : Int} {r : List (Option Nat)} (hd : decode M.2.1 pc = .ok (.bastore, 1)) (hx : x = 0 ∨ x = 1) (hk : fb_shp[k]? = some (2, n, r)) (hi : 0 ≤ i ∧ i < n) (kk : fb_V E M (pc + 1) ls st (fb_sm σ k i x) Q) : fb_V E M pc ls (.inl x :: .inl i :: .inr k :: st) σ Q := by
  intro p e s m args below meth c H locs la C hP hS hL
  obtain ⟨h1, h2⟩ := fb_in hi.1 hi.2 (fb_len hk)
  refine va_zast C.1 C.2.1 C.2.2.2.2.2.2.2.2.1 hP (fb_HD C.2.2.2.2.2.2.2.1 σ) hS k 1 (fb_W_at hk) rfl h1 hd (fun H1 locs1 hP1 _ hS1 => ?_)
  have e1 : vp_nar .boolean (Int32.ofInt x) = Int32.ofInt x := by rcases hx with rfl | rfl <;> rfl
  rw [h2, e1, fb_set_z hk hi.1] at hP1
  exact kk p e s m args below meth c H1 locs1 la C hP1 hS1 hL
theorem fb_ald {k n r0 : Nat} {i : Int} (hd : decode M.2.1 pc = .ok (.aaload, 1)) (hk : fb_shp[k]? = some (3, n, [some r0])) (hi : 0 ≤ i ∧ i < n) (kk : fb_V E M (pc + 1) ls (.inr (r0 + i.toNat) :: st) σ Q) : fb_V E M pc ls (.inl i :: .inr k :: st) σ Q := by
  intro p e s m args below meth c H locs la C hP hS hL
  obtain ⟨h1, h2⟩ := fb_in hi.1 hi.2 (fb_len hk)
  have hlt : (Int32.ofInt i).toNatClampNeg < n := Nat.not_le.mp fun q => h1 (Or.inr q)
  refine W.aald (v := .ref (E.2.2.1 (r0 + i.toNat))) (ty := .array .int) C.1 C.2.1 (hP k _ (fb_W_at hk)) (C.2.2.2.2.2.2.2.2.2.1 n (fun j => va_rf (some (E.2.2.1 (fb_r0 [some r0] + j))))) rfl (fun q => by cases q) (by show ¬ (_ ∨ (arrV _ _ _).slots.size ≤ _); rw [arrV_size]; exact h1) (by show (arrV _ _ _).slots[_]? = _; rw [arrV_read _ _ hlt, h2]; rfl) rfl rfl hd ?_
  exact kk p e s m args below meth c H locs la C hP hS hL
theorem fb_alen {k n a : Nat} {r : List (Option Nat)} (hd : decode M.2.1 pc = .ok (.arraylength, 1)) (hk : fb_shp[k]? = some (a, n, r)) (ha : a = 1 ∨ a = 2) (kk : fb_V E M (pc + 1) ls (.inl (n : Int) :: st) σ Q) : fb_V E M pc ls (.inr k :: st) σ Q := by
  intro p e s m args below meth c H locs la C hP hS hL
  have hv : Int32.ofNat n = Int32.ofInt (n : Int) := Int32.ofInt_eq_ofNat.symm
  rcases ha with rfl | rfl
  · exact va_alen C.1 C.2.1 C.2.2.2.2.2.2.2.2.1 hP k 0 (fb_W_at hk) rfl hv hd (kk p e s m args below meth c H locs la C hP hS hL)
  · exact va_alen C.1 C.2.1 C.2.2.2.2.2.2.2.2.1 hP k 1 (fb_W_at hk) rfl hv hd (kk p e s m args below meth c H locs la C hP hS hL)
theorem fb_sorts_get {idx : Nat} (hd : decode M.2.1 pc = .ok (.getstatic idx, 3)) (hw : Cond.fieldLinkNest M.1.cls idx "FrameBackEnd" "SORTS" "[I" "FrameBackEnd" ∈ fb_NW) (kk : fb_V E M (pc + 3) ls (.inr 99 :: st) σ Q) : fb_V E M pc ls st σ Q := by
  intro p e s m args below meth c H locs la C hP hS hL
  exact va_getsN C.1 C.2.1 C.2.2.2.2.2.2.2.2.2.2.2.1 hS C.2.2.2.2.1 (fb_Nw C hw rfl) (fun _ h => h) hd (kk p e s m args below meth c H locs la C hP hS hL)
theorem fb_sorts_ld {i : Int} (hd : decode M.2.1 pc = .ok (.iaload, 1)) (hi : 0 ≤ i ∧ i < 48) (kk : fb_V E M (pc + 1) ls (.inl (fb_sorts i.toNat) :: st) σ Q) : fb_V E M pc ls (.inl i :: .inr 99 :: st) σ Q := by
  intro p e s m args below meth c H locs la C hP hS hL
  obtain ⟨h1, h2⟩ := fb_in (n := 48) hi.1 hi.2 (by decide)
  refine va_ti C.1 C.2.1 C.2.2.2.2.2.2.2.2.2.2.2.2 hS h1 (v := .int (Int32.ofInt (fb_sorts i.toNat))) (by rw [h2]) hd ?_
  exact kk p e s m args below meth c H locs la C hP hS hL
theorem fb_iret {x : Int} (hd : decode M.2.1 pc = .ok (.ireturn, 1)) (hr : M.2.2.2.1 = some .int) (hq : Q x σ) : fb_V E M pc ls [.inl x] σ Q := by
  intro p e s m args below meth c H locs la C hP hS hL
  have hlocks := C.2.2.2.2.2.2.1
  refine W.iret C.1 C.2.1 (C.2.2.1.trans hr) (fun t ht _ => ?_) hS.2.2 hd hlocks
  unfold fb_Q
  rw [hr]
  exact ⟨⟨Int32.ofInt x, (x, σ), rfl, ⟨rfl, hq⟩, by show va_P E.2.1 fb_cl (fb_W E σ) t.heap; rw [ht]; exact hP⟩, hS.F ht⟩
theorem fb_zret {x : Int} (hd : decode M.2.1 pc = .ok (.ireturn, 1)) (hr : M.2.2.2.1 = some .boolean) (hx : x = 0 ∨ x = 1) (hq : Q x σ) : fb_V E M pc ls [.inl x] σ Q := by
  intro p e s m args below meth c H locs la C hP hS hL
  have hlocks := C.2.2.2.2.2.2.1
  have hnr : narrow .boolean (.int (Int32.ofInt x)) = .int (Int32.ofInt x) := by rcases hx with rfl | rfl <;> rfl
  refine W.zret C.1 C.2.1 (C.2.2.1.trans hr) hnr (fun t ht _ => ?_) hS.2.2 hd hlocks
  unfold fb_Q
  rw [hr]
  exact ⟨⟨Int32.ofInt x, (x, σ), rfl, ⟨rfl, hq⟩, by show va_P E.2.1 fb_cl (fb_W E σ) t.heap; rw [ht]; exact hP⟩, hS.F ht⟩
theorem fb_vret (hd : decode M.2.1 pc = .ok (.return_, 1)) (hr : M.2.2.2.1 = none) (hq : Q 0 σ) : fb_V E M pc ls [] σ Q := by
  intro p e s m args below meth c H locs la C hP hS hL
  have hlocks := C.2.2.2.2.2.2.1
  refine W.vret C.1 C.2.1 (C.2.2.1.trans hr) (fun t ht _ => ?_) hS.2.2 hd hlocks
  unfold fb_Q
  rw [hr]
  exact ⟨⟨σ, rfl, hq, by show va_P E.2.1 fb_cl (fb_W E σ) t.heap; rw [ht]; exact hP⟩, hS.F ht⟩
theorem fb_max {idx : Nat} {x y : Int} (hd : decode M.2.1 pc = .ok (.invokestatic idx, 3)) (hw : (Cond.methodLink M.1.cls idx Lib.Math.max.name ∈ fb_WA ∧ Cond.static Lib.Math.max.name ∈ fb_WA ∧ Cond.initialized "java/lang/Math" ∈ fb_WA ∧ Cond.code Lib.Math.max.name Lib.Math.max.code 2 (some .int) ∈ fb_WA) ∧ 1 ≤ M.2.2.2.2 ∧ Nat.ble st.length 8 = true) (hx : -2147483648 ≤ x ∧ x < 2147483648) (hy : -2147483648 ≤ y ∧ y < 2147483648) (k : fb_V E M (pc + 3) ls (.inl (if x < y then y else x) :: st) σ Q) : fb_V E M pc ls (.inl y :: .inl x :: st) σ Q := by
  intro p e s m args below meth c H locs la C hP hS hL
  obtain ⟨⟨w1, w2, w3, w4⟩, w5, w6⟩ := hw
  have w6 := Nat.le_of_ble_eq_true w6
  have hts := C.2.2.2.2.2.1
  refine va_mmax C.1 C.2.1 (by rw [hL.1]; exact C.2.2.2.1) C.2.2.2.2.1 (hts _ (List.mem_cons_of_mem _ w1)) (hts _ (List.mem_cons_of_mem _ w2)) (hts _ (List.mem_cons_of_mem _ w3)) (hts _ (List.mem_cons_of_mem _ w4)) w5 (by have := fb_rest0 E.2.2.1 st; show _ ≤ 40 * M.2.2.2.2; omega) (Nat.le_refl _) (Nat.le_refl _) hd ?_
  have e1 : (if Int32.ofInt x < Int32.ofInt y then Int32.ofInt y else Int32.ofInt x) = Int32.ofInt (if x < y then y else x) := by
    by_cases h : x < y
    · rw [if_pos h, if_pos ((fb_lt_iff hx hy).mpr h)]
    · rw [if_neg h, if_neg (mt (fb_lt_iff hx hy).mp h)]
  rw [e1]
  exact k p e s m args below meth c H locs la C hP hS hL
/-- fewer known locals -/
def fb_sub : List fb_X → List fb_X → Prop
  | [], [] => True
  | a :: l, b :: r => (a = .inr 999 ∨ a = b) ∧ fb_sub l r
  | _, _ => False
theorem fb_sub_0 : fb_sub [] [] := trivial
theorem fb_sub_k {a : fb_X} {l r : List fb_X} (h : fb_sub l r) : fb_sub (a :: l) (a :: r) := ⟨Or.inr rfl, h⟩
theorem fb_sub_d {b : fb_X} {l r : List fb_X} (h : fb_sub l r) : fb_sub (.inr 999 :: l) (b :: r) := ⟨Or.inl rfl, h⟩
theorem fb_sub_at : ∀ {l r : List fb_X}, fb_sub l r → ∀ (i : Nat) (v : fb_X), l[i]? = some v → v ≠ .inr 999 → r[i]? = some v
  | [], [], _, i, v, h, _ => by simp at h
  | a :: l, b :: r, hs, 0, v, h, hv => by
    simp only [List.getElem?_cons_zero, Option.some.injEq] at h ⊢
    rcases hs.1 with e | e
    · exact absurd (h ▸ e) hv
    · rw [← e, h]
  | a :: l, b :: r, hs, i + 1, v, h, hv => by
    simp only [List.getElem?_cons_succ] at h ⊢
    exact fb_sub_at hs.2 i v h hv
  | [], _ :: _, hs, _, _, _, _ => hs.elim
  | _ :: _, [], hs, _, _, _, _ => hs.elim
theorem fb_drop {ls' : List fb_X} (hs : fb_sub ls' ls) (h : fb_V E M pc ls' st σ Q) : fb_V E M pc ls st σ Q := by
  intro p e s m args below meth c H locs la C hP hS hL
  exact h p e s m args below meth c H locs la C hP hS ⟨hL.1, hL.2.1, fun i x hi => hL.2.2.1 i x (fb_sub_at hs i _ hi (by intro q; cases q)), fun i k hi hk => hL.2.2.2 i k (fb_sub_at hs i _ hi (by intro q; cases q; exact hk rfl)) hk⟩
end FBO
/-! contracts and calls -/
theorem fb_args_sl (ad : Nat → Nat) (vs : List fb_X) : lg_sl (vs.map (fb_cv ad)) = vs.map (fun v => Slot.val (fb_cv ad v)) := by
  induction vs with
  | nil => rfl
  | cons v t ih =>
    have h : lg_sl ((v :: t).map (fb_cv ad)) = (if (fb_cv ad v).category = 2 then [Slot.val (fb_cv ad v), Slot.second] else [Slot.val (fb_cv ad v)]) ++ lg_sl (t.map (fb_cv ad)) := rfl
    rw [h, ih, fb_cat]
    rfl
theorem fb_entry {E : fb_E} {vs ls : List fb_X} {n : Nat} (hn : vs.length ≤ n) (hls : ls = vs ++ List.replicate (n - vs.length) (.inr 999)) : fb_L E ((lg_sl (vs.map (fb_cv E.2.2.1)) ++ List.replicate (n - (lg_sl (vs.map (fb_cv E.2.2.1))).length) Slot.unset).toArray) n ls := by
  have h := lv_entry (vs.map (fb_cv E.2.2.1)) (n := n) (by rw [fb_args_sl, List.length_map]; exact hn)
  have key : ∀ (i : Nat) (v : fb_X), ls[i]? = some v → v ≠ .inr 999 → ((lg_sl (vs.map (fb_cv E.2.2.1)) ++ List.replicate (n - (lg_sl (vs.map (fb_cv E.2.2.1))).length) Slot.unset).toArray)[i]? = some (.val (fb_cv E.2.2.1 v)) := by
    intro i v hi hv
    rw [hls] at hi
    by_cases hl : i < vs.length
    · rw [List.getElem?_append_left hl] at hi
      rw [List.getElem?_toArray, List.getElem?_append_left (by rw [fb_args_sl, List.length_map]; exact hl), fb_args_sl, List.getElem?_map, hi]
      rfl
    · rw [List.getElem?_append_right (by omega), List.getElem?_replicate] at hi
      split at hi
      · cases hi; exact absurd rfl hv
      · cases hi
  refine ⟨h.1, h.2.1, fun i x hi => key i _ hi (by intro h; cases h), fun i k hi hk => key i _ hi (by intro h; cases h; exact hk rfl)⟩
def fb_Pc (E : fb_E) (vs : List fb_X) (σ : fb_S) : Array Value → State → Prop := va_Pc (vs.map (fb_cv E.2.2.1)) (fun U => fb_H E ∧ fb_K E U ∧ va_P E.2.1 fb_cl (fb_W E σ) U.heap)
theorem fb_met {E : fb_E} {M : fb_M} {vs ls : List fb_X} {σ : fb_S} {Q : Int → fb_S → Prop} (hpl : plainName M.1.cls = true) (hn : vs.length ≤ M.2.2.1) (hls : ls = vs ++ List.replicate (M.2.2.1 - vs.length) (.inr 999)) (h : fb_V E M 0 ls [] σ Q) : Met E.1 M.1 (fb_ws M) (fb_rm M) (fb_Pc E vs σ) (fb_Q E M Q) 0 0 (fb_A E) := by
  refine Met.ofW (cc := M.2.1) (maxL := M.2.2.1) (ret := M.2.2.2.1) hpl rfl ?_
  intro p e s m args below meth c s₁ B hml hv
  obtain ⟨rfl, hH, hK, hP⟩ := hv
  have hts := atoms_spec (ws := fb_ws M) B.pre
  have hown : s.vm.findClass M.1.cls = some m.cls := findClass_of_methodNamed B.named
  rw [lg_entry_eq]
  exact h p e s m _ below meth c s.heap [] _ ⟨B.exec, B.bytes, B.returns, hml, hown, hts, B.notSynchronized, hH, hK⟩ hP va_S.rf (fb_entry hn hls)
theorem fb_NW_warm {w : Cond} (hw : w ∈ fb_NW) {s U : State} (hW : s.WarmedH U.vm) (h : va_Nw w s) : va_Nw w U := by
  have h1 : ∀ w ∈ fb_NW, fb_isN w = true := by decide +kernel
  have h2 := h1 w hw
  cases w <;> first | exact va_Nw.warmF hW h | exact va_Nw.warmM hW h | (simp [fb_isN] at h2; done)
theorem fb_NW_on {w : Cond} (hw : w ∈ fb_NW) : w.onTables = true := by
  have h1 : ∀ w ∈ fb_NW, fb_isN w = true := by decide +kernel
  have h2 := h1 w hw
  cases w <;> first | rfl | (simp [fb_isN] at h2; done)
theorem fb_K.moved {E : fb_E} {s U : State} {H : Heap} {locs : List Loc} (h : fb_K E s) (hW : s.WarmedH U.vm) (hS : va_S (fb_A E) s.heap H locs) (hU : U.heap = H) : fb_K E U := by
  obtain ⟨h1, h2, h3, h4, h5⟩ := h
  refine ⟨va_K.moved hW.alike h1, arrOfT_moved hW.alike h2, fun w hw => fb_NW_warm hw hW (h3 w hw), ?_, ?_⟩
  · rw [hU]; exact (h4.moved hW.alike).kept (fun a ha hA => hS.2.1 a ha hA)
  · rw [hU]; exact (h5.moved hW.alike).kept (fun a ha hA => hS.2.1 a ha hA)
theorem fb_K.calling {E : fb_E} {U : State} (h : fb_K E U) (g : JFrame) (mk : MethodId) (a : Array Value) : fb_K E (U.calling g mk a) := by
  obtain ⟨h1, h2, h3, h4, h5⟩ := h
  refine ⟨va_K.moved (u := U) (U := U.calling g mk a) (Vm.Alike.refl U.vm) h1, arrOfT_moved (Vm.Alike.refl U.vm) h2, fun w hw => va_Nw.same (u := U) (U := U.calling g mk a) (fb_NW_on hw) rfl (h3 w hw), ?_, ?_⟩
  · exact h4.moved (U := U.calling g mk a) (Vm.Alike.refl U.vm)
  · exact h5.moved (U := U.calling g mk a) (Vm.Alike.refl U.vm)
theorem fb_blind {E : fb_E} {vs : List fb_X} {σ : fb_S} : FrameBlind (fb_Pc E vs σ) := by
  intro a U g mk q
  obtain ⟨q0, qH, qK, qP⟩ := q
  exact ⟨q0, qH, qK.calling g mk a, qP⟩
theorem fb_good {w : Cond} (h : w ∈ fb_WA) : (w.onTables && w.keeps) = true ∨ ∃ ty, w = .arrayClass ty := good_of_word (List.mem_filter.mp h).2
theorem fb_goodIn {M z : fb_M} {pre : List Cond} (hp : ∀ w ∈ pre, w ∈ fb_WA) (hz : fb_cd z) : GoodIn (fb_ws M) (pre ++ fb_ws z) := by
  have key : ∀ w, w ∈ fb_WA → w ∈ fb_ws M ∧ ((w.onTables && w.keeps) = true ∨ ∃ ty, w = .arrayClass ty) := fun w h => ⟨List.mem_cons_of_mem _ h, fb_good h⟩
  intro w hw
  rcases List.mem_append.mp hw with h | h
  · exact key w (hp w h)
  · rcases List.mem_cons.mp h with rfl | h
    · exact key _ hz
    · exact key w h
/-- the callee's frames and locals fit -/
abbrev fb_ht (M z : fb_M) : Prop := z.2.2.2.2 + 1 ≤ M.2.2.2.2 ∧ z.2.2.1 ≤ 20
theorem fb_ht_room {M z : fb_M} (h : fb_ht M z) : (fb_rm z).frames + 1 ≤ (fb_rm M).frames ∧ 8 + (z.2.2.1 + 11) + (fb_rm z).locals ≤ (fb_rm M).locals := by
  obtain ⟨h1, h2⟩ := h
  refine ⟨h1, ?_⟩
  show 8 + (z.2.2.1 + 11) + 40 * z.2.2.2.2 ≤ 40 * M.2.2.2.2
  omega
theorem fb_rest (ad : Nat → Nat) (st : List fb_X) (h : st.length ≤ 8) : ((st.map (fb_cv ad)).map fun v => v.category).sum ≤ 8 := by
  have e : ((st.map (fb_cv ad)).map fun v => v.category).sum = st.length := by
    clear h
    induction st with
    | nil => rfl
    | cons v t ih =>
      simp only [List.map_cons, List.sum_cons, List.length_cons, fb_cat]
      rw [ih]; omega
  omega
section FBC
variable {E : fb_E} {M z : fb_M} {pc idx k ci np : Nat} {ls st vs lz : List fb_X} {σ : fb_S} {Q : Int → fb_S → Prop} {fds : List (Option Nat)} {R : String} {T : u_T} {N : Nat}
theorem fb_map_rev (ad : Nat → Nat) (vs st : List fb_X) : (vs.reverse ++ st).map (fb_cv ad) = (vs.map (fb_cv ad)).reverse ++ st.map (fb_cv ad) := by simp
def fb_vw (C : String) (z : fb_M) (idx : Nat) (R : String) : Prop := z.1.cls = R ∧ Cond.methodLink C idx z.1 ∈ fb_WA ∧ Cond.instanceMethod z.1 ∈ fb_WA ∧ Cond.selects R z.1 z.1 ∈ fb_WA ∧ Cond.initialized R ∈ fb_WA ∧ fb_cd z ∧ z.1.cls ≠ "java/lang/invoke/MethodHandle" ∧ z.1.cls ≠ "java/lang/invoke/VarHandle" ∧ plainName z.1.cls = true
def fb_sw (C : String) (z : fb_M) (idx : Nat) : Prop := Cond.methodLink C idx z.1 ∈ fb_WA ∧ Cond.static z.1 ∈ fb_WA ∧ Cond.initialized z.1.cls ∈ fb_WA ∧ fb_cd z ∧ z.1.cls ≠ "java/lang/invoke/MethodHandle" ∧ z.1.cls ≠ "java/lang/invoke/VarHandle" ∧ plainName z.1.cls = true

theorem fb_callVi (hd : decode M.2.1 pc = .ok (.invokevirtual idx, 3)) (hw : fb_vw M.1.cls z idx R) (hh : fb_ht M z) (hr : ∃ ty, z.2.2.2.1 = some ty) (hk : fb_shp[k]? = some (0, ci, fds)) (hc : fb_cl[ci]? = some (R, T, N)) (hpar : (parseMethodDescriptor z.1.desc).map (fun d => d.parameters.length) = some np) (hnp : vs.length = np) (hn : Nat.ble (vs.length + 1) z.2.2.1 = true) (hls : lz = (.inr k :: vs) ++ List.replicate (z.2.2.1 - (vs.length + 1)) (.inr 999)) (hm : ls.length = M.2.2.1) (hst : Nat.ble st.length 8 = true)
    (kk : fb_V E z 0 lz [] σ (fun r σ' => fb_V E M (pc + 3) ls (.inl r :: st) σ' Q)) : fb_V E M pc ls (vs.reverse ++ .inr k :: st) σ Q := by
  intro p e s m args below meth c H locs la C hP hS hL
  obtain ⟨w0, w1, w2, w3, w4, w5, w6, w7, w8⟩ := hw
  subst hnp
  have hn := Nat.le_of_ble_eq_true hn
  have hst := Nat.le_of_ble_eq_true hst
  have hM := fb_met (vs := .inr k :: vs) w8 hn hls kk
  have hQ : fb_Q E z (fun r σ' => fb_V E M (pc + 3) ls (.inl r :: st) σ' Q) = va_Qi (fun (r : Int32) (u : Int × fb_S) => r = Int32.ofInt u.1 ∧ fb_V E M (pc + 3) ls (.inl u.1 :: st) u.2 Q) (fun u t => va_P E.2.1 fb_cl (fb_W E u.2) t.heap) (fb_A E) := by unfold fb_Q; obtain ⟨ty, hr⟩ := hr; rw [hr]
  rw [hQ] at hM
  have hts := C.2.2.2.2.2.1
  have hG : GoodIn (fb_ws M) (wsV M.1.cls idx R z.1 (fb_ws z)) := by
    refine fb_goodIn (pre := [.methodLink M.1.cls idx z.1, .instanceMethod z.1, .selects R z.1 z.1, .initialized R]) (fun w h => ?_) w5
    simp only [List.mem_cons, List.not_mem_nil, or_false] at h
    rcases h with rfl | rfl | rfl | rfl <;> assumption
  have hK := C.2.2.2.2.2.2.2.2
  have hrecv := va_recv hK.1 hP hc (fb_W_at hk)
  rw [fb_map_rev]
  refine va_calli (va_runV (As := vs.map (fb_cv E.2.2.1)) (rest := st.map (fb_cv E.2.2.1)) (b := E.2.2.1 k) (C := R) ⟨C.1, C.2.1, C.2.2.2.1, C.2.2.2.2.1, hts⟩ hM (cwV vs.length hts hG rfl rfl rfl ⟨w0, w6, w7, hpar⟩ (fb_ht_room hh)) ⟨fb_blind, hrecv, fun U hU hW => ⟨rfl, C.2.2.2.2.2.2.2.1, hK.moved hW hS hU, by rw [hU]; exact hP⟩⟩ rfl (by rw [List.length_map]) (hL.1) rfl (lv_room (fb_rest _ st hst)) hd ⟨Nat.le_refl _, Nat.le_refl _⟩) hS (fun q _ h => h) (fun q h => h) (fun r u t H1 locs1 ht _ hpost hB _ _ hS1 => ?_)
  obtain ⟨rfl, hV⟩ := hpost
  rw [ht] at hB
  exact hV p e s m args below meth c H1 locs1 la C hB hS1 hL
theorem fb_callVv (hd : decode M.2.1 pc = .ok (.invokevirtual idx, 3)) (hw : fb_vw M.1.cls z idx R) (hh : fb_ht M z) (hr : z.2.2.2.1 = none) (hk : fb_shp[k]? = some (0, ci, fds)) (hc : fb_cl[ci]? = some (R, T, N)) (hpar : (parseMethodDescriptor z.1.desc).map (fun d => d.parameters.length) = some np) (hnp : vs.length = np) (hn : Nat.ble (vs.length + 1) z.2.2.1 = true) (hls : lz = (.inr k :: vs) ++ List.replicate (z.2.2.1 - (vs.length + 1)) (.inr 999)) (hm : ls.length = M.2.2.1) (hst : Nat.ble st.length 8 = true)
    (kk : fb_V E z 0 lz [] σ (fun r σ' => fb_V E M (pc + 3) ls (st) σ' Q)) : fb_V E M pc ls (vs.reverse ++ .inr k :: st) σ Q := by
  intro p e s m args below meth c H locs la C hP hS hL
  obtain ⟨w0, w1, w2, w3, w4, w5, w6, w7, w8⟩ := hw
  subst hnp
  have hn := Nat.le_of_ble_eq_true hn
  have hst := Nat.le_of_ble_eq_true hst
  have hM := fb_met (vs := .inr k :: vs) w8 hn hls kk
  have hQ : fb_Q E z (fun r σ' => fb_V E M (pc + 3) ls (st) σ' Q) = va_Qv (fun σ' : fb_S => fb_V E M (pc + 3) ls st σ' Q) (fun σ' t => va_P E.2.1 fb_cl (fb_W E σ') t.heap) (fb_A E) := by unfold fb_Q; rw [hr]
  rw [hQ] at hM
  have hts := C.2.2.2.2.2.1
  have hG : GoodIn (fb_ws M) (wsV M.1.cls idx R z.1 (fb_ws z)) := by
    refine fb_goodIn (pre := [.methodLink M.1.cls idx z.1, .instanceMethod z.1, .selects R z.1 z.1, .initialized R]) (fun w h => ?_) w5
    simp only [List.mem_cons, List.not_mem_nil, or_false] at h
    rcases h with rfl | rfl | rfl | rfl <;> assumption
  have hK := C.2.2.2.2.2.2.2.2
  have hrecv := va_recv hK.1 hP hc (fb_W_at hk)
  rw [fb_map_rev]
  refine va_callv (va_runV (As := vs.map (fb_cv E.2.2.1)) (rest := st.map (fb_cv E.2.2.1)) (b := E.2.2.1 k) (C := R) ⟨C.1, C.2.1, C.2.2.2.1, C.2.2.2.2.1, hts⟩ hM (cwV vs.length hts hG rfl rfl rfl ⟨w0, w6, w7, hpar⟩ (fb_ht_room hh)) ⟨fb_blind, hrecv, fun U hU hW => ⟨rfl, C.2.2.2.2.2.2.2.1, hK.moved hW hS hU, by rw [hU]; exact hP⟩⟩ rfl (by rw [List.length_map]) (hL.1) rfl (lv_room (fb_rest _ st hst)) hd ⟨Nat.le_refl _, Nat.le_refl _⟩) hS (fun q _ h => h) (fun q h => h) (fun u t H1 locs1 ht _ hV hB _ _ hS1 => ?_)
  rw [ht] at hB
  exact hV p e s m args below meth c H1 locs1 la C hB hS1 hL
theorem fb_callSi (hd : decode M.2.1 pc = .ok (.invokestatic idx, 3)) (hw : fb_sw M.1.cls z idx) (hh : fb_ht M z) (hr : ∃ ty, z.2.2.2.1 = some ty) (hpar : (parseMethodDescriptor z.1.desc).map (fun d => d.parameters.length) = some np) (hnp : vs.length = np) (hn : Nat.ble vs.length z.2.2.1 = true) (hls : lz = vs ++ List.replicate (z.2.2.1 - vs.length) (.inr 999)) (hm : ls.length = M.2.2.1) (hst : Nat.ble st.length 8 = true)
    (kk : fb_V E z 0 lz [] σ (fun r σ' => fb_V E M (pc + 3) ls (.inl r :: st) σ' Q)) : fb_V E M pc ls (vs.reverse ++ st) σ Q := by
  intro p e s m args below meth c H locs la C hP hS hL
  obtain ⟨w1, w2, w4, w5, w6, w7, w8⟩ := hw
  subst hnp
  have hn := Nat.le_of_ble_eq_true hn
  have hst := Nat.le_of_ble_eq_true hst
  have hM := fb_met (vs := vs) w8 hn hls kk
  have hQ : fb_Q E z (fun r σ' => fb_V E M (pc + 3) ls (.inl r :: st) σ' Q) = va_Qi (fun (r : Int32) (u : Int × fb_S) => r = Int32.ofInt u.1 ∧ fb_V E M (pc + 3) ls (.inl u.1 :: st) u.2 Q) (fun u t => va_P E.2.1 fb_cl (fb_W E u.2) t.heap) (fb_A E) := by unfold fb_Q; obtain ⟨ty, hr⟩ := hr; rw [hr]
  rw [hQ] at hM
  have hts := C.2.2.2.2.2.1
  have hG : GoodIn (fb_ws M) (va_wsS M.1.cls idx z.1 (fb_ws z)) := by
    refine fb_goodIn (pre := [.methodLink M.1.cls idx z.1, .static z.1, .initialized z.1.cls]) (fun w h => ?_) w5
    simp only [List.mem_cons, List.not_mem_nil, or_false] at h
    rcases h with rfl | rfl | rfl <;> assumption
  have hK := C.2.2.2.2.2.2.2.2
  rw [fb_map_rev]
  refine va_calli (va_runS (As := vs.map (fb_cv E.2.2.1)) (rest := st.map (fb_cv E.2.2.1)) ⟨C.1, C.2.1, C.2.2.2.1, C.2.2.2.2.1, hts⟩ hM (va_cwS vs.length hts hG rfl rfl rfl ⟨w6, w7, hpar⟩ (fb_ht_room hh)) ⟨fb_blind, fun U hU hW => ⟨rfl, C.2.2.2.2.2.2.2.1, hK.moved hW hS hU, by rw [hU]; exact hP⟩⟩ rfl (by rw [List.length_map]) (hL.1) rfl (lv_room (fb_rest _ st hst)) hd ⟨Nat.le_refl _, Nat.le_refl _⟩) hS (fun q _ h => h) (fun q h => h) (fun r u t H1 locs1 ht _ hpost hB _ _ hS1 => ?_)
  obtain ⟨rfl, hV⟩ := hpost
  rw [ht] at hB
  exact hV p e s m args below meth c H1 locs1 la C hB hS1 hL
theorem fb_callSv (hd : decode M.2.1 pc = .ok (.invokestatic idx, 3)) (hw : fb_sw M.1.cls z idx) (hh : fb_ht M z) (hr : z.2.2.2.1 = none) (hpar : (parseMethodDescriptor z.1.desc).map (fun d => d.parameters.length) = some np) (hnp : vs.length = np) (hn : Nat.ble vs.length z.2.2.1 = true) (hls : lz = vs ++ List.replicate (z.2.2.1 - vs.length) (.inr 999)) (hm : ls.length = M.2.2.1) (hst : Nat.ble st.length 8 = true)
    (kk : fb_V E z 0 lz [] σ (fun r σ' => fb_V E M (pc + 3) ls (st) σ' Q)) : fb_V E M pc ls (vs.reverse ++ st) σ Q := by
  intro p e s m args below meth c H locs la C hP hS hL
  obtain ⟨w1, w2, w4, w5, w6, w7, w8⟩ := hw
  subst hnp
  have hn := Nat.le_of_ble_eq_true hn
  have hst := Nat.le_of_ble_eq_true hst
  have hM := fb_met (vs := vs) w8 hn hls kk
  have hQ : fb_Q E z (fun r σ' => fb_V E M (pc + 3) ls (st) σ' Q) = va_Qv (fun σ' : fb_S => fb_V E M (pc + 3) ls st σ' Q) (fun σ' t => va_P E.2.1 fb_cl (fb_W E σ') t.heap) (fb_A E) := by unfold fb_Q; rw [hr]
  rw [hQ] at hM
  have hts := C.2.2.2.2.2.1
  have hG : GoodIn (fb_ws M) (va_wsS M.1.cls idx z.1 (fb_ws z)) := by
    refine fb_goodIn (pre := [.methodLink M.1.cls idx z.1, .static z.1, .initialized z.1.cls]) (fun w h => ?_) w5
    simp only [List.mem_cons, List.not_mem_nil, or_false] at h
    rcases h with rfl | rfl | rfl <;> assumption
  have hK := C.2.2.2.2.2.2.2.2
  rw [fb_map_rev]
  refine va_callv (va_runS (As := vs.map (fb_cv E.2.2.1)) (rest := st.map (fb_cv E.2.2.1)) ⟨C.1, C.2.1, C.2.2.2.1, C.2.2.2.2.1, hts⟩ hM (va_cwS vs.length hts hG rfl rfl rfl ⟨w6, w7, hpar⟩ (fb_ht_room hh)) ⟨fb_blind, fun U hU hW => ⟨rfl, C.2.2.2.2.2.2.2.1, hK.moved hW hS hU, by rw [hU]; exact hP⟩⟩ rfl (by rw [List.length_map]) (hL.1) rfl (lv_room (fb_rest _ st hst)) hd ⟨Nat.le_refl _, Nat.le_refl _⟩) hS (fun q _ h => h) (fun q h => h) (fun u t H1 locs1 ht _ hV hB _ _ hS1 => ?_)
  rw [ht] at hB
  exact hV p e s m args below meth c H1 locs1 la C hB hS1 hL
end FBC
