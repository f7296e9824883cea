/-! THE CLAIM OUT OF ONE WALK OF THE LAW'S BODY. Your part is whole_start (and what it stands on); all else here is the same for every law, but numbers. -/
def R_law : String := "FrameBackEndLaw"
def lw_P (b : Addr) (xs : List Int32) (args : Array Value) (s : State) : Prop := args = #[.ref b] ∧ s.IntsAt b xs ∧ xs.length ≤ 2560 ∧ (Jvm.Cond.and given_1 narrow_1).before args s = true
def lw_Q (_ : Array Value) (s : State) (o : Outcome) (t : State) : Prop := o = .returned (some (.int 1)) ∧ Framed s o t [] 600000 7302250
def lw_Z (below : List Frame) (a : Array Value) (s : State) : State → Prop := fun t => ∃ o, t.status = .running ∧ Ended t below o ∧ lw_Q a s o t
/-- the law's own end, with 1 on the stack, nothing written that was there before, its room as the claim has it -/
theorem lw_ret {p : Program} {l : Launch} {e : Env} {s : State} {m : MethodId} {below : List Frame} {meth : Method} {c : Code} {b : Nat} (hx : p.tables.exec = Jvm.exec) (hb : c.code = code) (hr : meth.sig.returnType = ret) (hlocks : meth.locks = false) {pc : Nat} {H : Heap} {ls : Array Slot} (hdg : decode code pc = .ok (.ireturn, 1)) : W p l e room_1 s m #[Value.ref b] below meth c H [] 600000 7302250 (lw_Z below #[Value.ref b] s) (F0 m pc ls [.int 1]) := by
  intro T hT X
  obtain ⟨fs, hret, hrun, hended, hW, hframe⟩ := X.leave (v := some (.int 1)) (hlocks := hlocks) (fun h => by rw [hr] at h; cases h)
  have hmeth' : T.vm.method? m = some meth := X.method'
  refine ⟨T.setFrames fs, ?_, .returned (some (.int 1)), hrun, hended, rfl, ⟨_, rfl⟩, hW, hframe⟩
  jvm_step X.here [X.here.top, hx, hb, hdg, hmeth', hr, ret, narrow_b1]
  (try refine ⟨rfl, ?_⟩); (try refine ⟨rfl, ?_⟩)
  first | (intro acts; rw [hret _ acts rfl rfl rfl]) | rw [hret _ _ rfl rfl rfl]
  exact Steps.refl _
/-- what holds at the law's entry: the machine, the code, the tables' words (any of lw_tbl by 'hts w (by decide +kernel)'), the script of L ints xs at the cell b, what the Statement gives of the start (any of its parts by flat_of_before) -/
def lw_At (p : Program) (s : State) (m : MethodId) (meth : Method) (c : Code) (b L : Nat) (xs : Nat → Int32) : Prop :=
  p.tables.exec = Jvm.exec ∧ c.code = code ∧ meth.sig.returnType = ret ∧ c.maxLocals = 4 ∧ s.vm.findClass R_law = some m.cls ∧ (∀ w ∈ lw_tbl, w.before #[Value.ref b] s = true) ∧ va_X b L xs s s.heap ∧ b < s.heap.size ∧ meth.locks = false ∧ (Jvm.Cond.and given_1 narrow_1).before #[Value.ref b] s = true
/-! the law's walk: rows of the judgement lg_V -/
def lg_C (E : fb_E) (p : Program) (s : State) (m : MethodId) (meth : Method) (c : Code) (b L : Nat) (xs : Nat → Int32) : Prop := lw_At p s m meth c b L xs ∧ fb_H E ∧ fb_K E s ∧ E.2.2.2.1 = s.heap.size ∧ E.2.2.1 98 = b
def lg_V (E : fb_E) (p : Program) (e : Env) (s : State) (m : MethodId) (below : List Frame) (meth : Method) (c : Code) (b cells slots : Nat) (pc : Nat) (ls st : List fb_X) (σ : fb_S) : Prop :=
  ∀ H la, va_P E.2.1 fb_cl (fb_W E σ) H → va_S (fb_A E) s.heap H [] → fb_L E la 4 ls → W p E.1 e room_1 s m #[Value.ref b] below meth c H [] cells slots (lw_Z below #[Value.ref b] s) (F0 m pc la (st.map (fb_cv E.2.2.1)))
section LG
variable {E : fb_E} {p : Program} {e : Env} {s : State} {m : MethodId} {below : List Frame} {meth : Method} {c : Code} {b cells slots L : Nat} {xs : Nat → Int32} {pc : Nat} {ls st : List fb_X} {σ : fb_S}
theorem lg_aload (C : lg_C E p s m meth c b L xs) {i : Fin 4} {j : Nat} (hd : decode code pc = .ok (.aload_n i, 1)) (hl : ls[(i : Nat)]? = some (.inr j)) (hj : j ≠ 999) (k : lg_V E p e s m below meth c b cells slots (pc + 1) ls (.inr j :: st) σ) : lg_V E p e s m below meth c b cells slots pc ls st σ := by
  intro H la hP hS hL
  exact lv_aload_n C.1.1 C.1.2.1 hd rfl (hL.ref hl hj) (k H la hP hS hL)
theorem lg_iload (C : lg_C E p s m meth c b L xs) {i : Fin 4} {x : Int} (hd : decode code pc = .ok (.iload_n i, 1)) (hl : ls[(i : Nat)]? = some (.inl x)) (k : lg_V E p e s m below meth c b cells slots (pc + 1) ls (.inl x :: st) σ) : lg_V E p e s m below meth c b cells slots pc ls st σ := by
  intro H la hP hS hL
  exact lv_iload_n C.1.1 C.1.2.1 hd rfl (hL.int hl) (k H la hP hS hL)
theorem lg_iconst (C : lg_C E p s m meth c b L xs) {n : Int} (hd : decode code pc = .ok (.iconst n, 1)) (k : lg_V E p e s m below meth c b cells slots (pc + 1) ls (.inl n :: st) σ) : lg_V E p e s m below meth c b cells slots pc ls st σ := by
  intro H la hP hS hL
  exact lv_iconst C.1.1 C.1.2.1 hd rfl (k H la hP hS hL)
theorem lg_bipush (C : lg_C E p s m meth c b L xs) {n : Int} (hd : decode code pc = .ok (.bipush n, 2)) (hn : (Int8.ofInt n).toInt32 = Int32.ofInt n) (k : lg_V E p e s m below meth c b cells slots (pc + 2) ls (.inl n :: st) σ) : lg_V E p e s m below meth c b cells slots pc ls st σ := by
  intro H la hP hS hL
  exact lv_bipush C.1.1 C.1.2.1 hd hn (k H la hP hS hL)
theorem lg_iadd (C : lg_C E p s m meth c b L xs) {x y : Int} (hd : decode code pc = .ok (.iadd, 1)) (k : lg_V E p e s m below meth c b cells slots (pc + 1) ls (.inl (x + y) :: st) σ) : lg_V E p e s m below meth c b cells slots pc ls (.inl y :: .inl x :: st) σ := by
  intro H la hP hS hL
  refine lv_iadd C.1.1 C.1.2.1 hd ?_
  rw [← Int32.ofInt_add]
  exact k H la hP hS hL
theorem lg_isub (C : lg_C E p s m meth c b L xs) {x y : Int} (hd : decode code pc = .ok (.isub, 1)) (k : lg_V E p e s m below meth c b cells slots (pc + 1) ls (.inl (x - y) :: st) σ) : lg_V E p e s m below meth c b cells slots pc ls (.inl y :: .inl x :: st) σ := by
  intro H la hP hS hL
  refine lv_isub C.1.1 C.1.2.1 hd ?_
  rw [← Int32.ofInt_sub]
  exact k H la hP hS hL
theorem lg_mask (C : lg_C E p s m meth c b L xs) {x : Int} (hd : decode code pc = .ok (.iand, 1)) (k : lg_V E p e s m below meth c b cells slots (pc + 1) ls (.inl (x % 32) :: st) σ) : lg_V E p e s m below meth c b cells slots pc ls (.inl 31 :: .inl x :: st) σ := by
  intro H la hP hS hL
  refine lv_iand C.1.1 C.1.2.1 hd ?_
  have := fb_mask x 5 (by omega)
  rw [show ((2 : Int) ^ 5 - 1) = 31 from rfl, show ((2 : Int) ^ 5) = 32 from rfl] at this
  rw [this]
  exact k H la hP hS hL
theorem lg_istore (C : lg_C E p s m meth c b L xs) {i : Fin 4} {x : Int} {ls' : List fb_X} (hd : decode code pc = .ok (.istore_n i, 1)) (hm : ls.length = 4) (hl : ls.set (i : Nat) (.inl x) = ls') (k : lg_V E p e s m below meth c b cells slots (pc + 1) ls' st σ) : lg_V E p e s m below meth c b cells slots pc ls (.inl x :: st) σ := by
  intro H la hP hS hL
  refine lv_istore_n C.1.1 C.1.2.1 hd rfl hL.has i.isLt rfl (fun la' hl' => ?_)
  have := fb_L.stored (w := .inl x) (by rw [hm]; exact i.isLt) rfl hl'
  rw [hl] at this
  exact k H la' hP hS this
theorem lg_iinc (C : lg_C E p s m meth c b L xs) {i : Nat} {n x : Int} {ls' : List fb_X} (hd : decode code pc = .ok (.iinc i n, 3)) (hx : ls[i]? = some (.inl x)) (hm : ls.length = 4) (hl : ls.set i (.inl (x + n)) = ls') (k : lg_V E p e s m below meth c b cells slots (pc + 3) ls' st σ) : lg_V E p e s m below meth c b cells slots pc ls st σ := by
  intro H la hP hS hL
  have hi : i < 4 := by rw [← hm]; exact (List.getElem?_eq_some_iff.mp hx).1
  have hmem : (i, Value.int (Int32.ofInt x)) ∈ fb_lv E ls := List.mem_filterMap.mpr ⟨i, List.mem_range.mpr (by omega), by unfold fb_one; rw [hx]⟩
  obtain ⟨k0, hk0⟩ := List.getElem?_of_mem hmem
  refine lv_iinc C.1.1 C.1.2.1 hd hL.has hk0 (v := Int32.ofInt (x + n)) (Int32.ofInt_add x n).symm hi rfl (fun la' hl' => ?_)
  have := fb_L.stored (w := .inl (x + n)) (by rw [hm]; exact hi) rfl hl'
  rw [hl] at this
  exact k H la' hP hS this
theorem lg_goto (C : lg_C E p s m meth c b L xs) {off : Int} {tgt : Nat} (hd : decode code pc = .ok (.goto off, 3)) (ht : (pc : Int) + off = (tgt : Int)) (k : lg_V E p e s m below meth c b cells slots tgt ls st σ) : lg_V E p e s m below meth c b cells slots pc ls st σ := by
  intro H la hP hS hL
  exact lv_goto C.1.1 C.1.2.1 hd ht (k H la hP hS hL)
theorem lg_gt (C : lg_C E p s m meth c b L xs) {x y : Int} {off : Int} {tgt : Nat} (hd : decode code pc = .ok (.if_icmp .gt off, 3)) (ht : (pc : Int) + off = (tgt : Int)) (hx : -2147483648 ≤ x ∧ x < 2147483648) (hy : -2147483648 ≤ y ∧ y < 2147483648) (kt : y < x → lg_V E p e s m below meth c b cells slots tgt ls st σ) (kf : ¬ y < x → lg_V E p e s m below meth c b cells slots (pc + 3) ls st σ) : lg_V E p e s m below meth c b cells slots pc ls (.inl y :: .inl x :: st) σ := by
  intro H la hP hS hL
  exact lv_icmp_gt C.1.1 C.1.2.1 hd ht (fun h => kt ((fb_lt_iff hy hx).mp h) H la hP hS hL) (fun h => kf (fun q => h ((fb_lt_iff hy hx).mpr q)) H la hP hS hL)
theorem lg_same (C : lg_C E p s m meth c b L xs) {r : Int} {off : Int} {tgt : Nat} (hd : decode code pc = .ok (.if_icmp .eq off, 3)) (ht : (pc : Int) + off = (tgt : Int)) (k : lg_V E p e s m below meth c b cells slots tgt ls st σ) : lg_V E p e s m below meth c b cells slots pc ls (.inl r :: .inl r :: st) σ := by
  intro H la hP hS hL
  exact lv_icmp_eq C.1.1 C.1.2.1 hd ht (fun _ => k H la hP hS hL) (fun h => absurd rfl h)
theorem lg_tsIn (C : lg_C E p s m meth c b L xs) {dflt lo hi : Int} {offs : Array Int} {len : Nat} {x : Int} (off : Int) {tgt : Nat} (hd : decode code pc = .ok (.tableswitch dflt lo hi offs, len)) (hx : -2147483648 ≤ x ∧ x < 2147483648) (h1 : lo ≤ x) (h2 : x ≤ hi) (ho : offs[(x - lo).toNat]? = some off) (ht : (pc : Int) + off = (tgt : Int)) (k : lg_V E p e s m below meth c b cells slots tgt ls st σ) : lg_V E p e s m below meth c b cells slots pc ls (.inl x :: st) σ := by
  intro H la hP hS hL
  have e : (Int32.ofInt x).toInt = x := fb_ti hx.1 hx.2
  exact lv_tableIn C.1.1 C.1.2.1 hd (by rw [e]; omega) (by rw [e]; omega) (by rw [e]; exact ho) ht (k H la hP hS hL)
theorem lg_tsOut (C : lg_C E p s m meth c b L xs) {dflt lo hi : Int} {offs : Array Int} {len : Nat} {x : Int} {tgt : Nat} (hd : decode code pc = .ok (.tableswitch dflt lo hi offs, len)) (hx : -2147483648 ≤ x ∧ x < 2147483648) (h : x < lo ∨ hi < x) (ht : (pc : Int) + dflt = (tgt : Int)) (k : lg_V E p e s m below meth c b cells slots tgt ls st σ) : lg_V E p e s m below meth c b cells slots pc ls (.inl x :: st) σ := by
  intro H la hP hS hL
  have e : (Int32.ofInt x).toInt = x := fb_ti hx.1 hx.2
  exact lv_tableOut C.1.1 C.1.2.1 hd (by rw [e]; exact h) ht (k H la hP hS hL)
theorem lg_len (C : lg_C E p s m meth c b L xs) (hL2 : L ≤ 2560) (hd : decode code pc = .ok (.arraylength, 1)) (k : lg_V E p e s m below meth c b cells slots (pc + 1) ls (.inl (L : Int) :: st) σ) : lg_V E p e s m below meth c b cells slots pc ls (.inr 98 :: st) σ := by
  obtain ⟨C1, c2, c3, c4, c5⟩ := C
  obtain ⟨x1, x2, x3, x4, x5, x6, x7, x8, x9, x10⟩ := C1
  intro H la hP hS hL
  have hb : ¬ fb_A E b := by
    show ¬ E.2.2.2.1 ≤ b
    omega
  show W p E.1 e room_1 s m #[Value.ref b] below meth c H [] cells slots (lw_Z below #[Value.ref b] s) (F0 m pc la (.ref (E.2.2.1 98) :: st.map (fb_cv E.2.2.1)))
  rw [c5]
  refine va_slen x1 x2 x7 x8 hb hS hd ?_
  exact k H la hP hS hL
theorem lg_ld (C : lg_C E p s m meth c b L xs) (hL2 : L ≤ 2560) {i : Int} (hi : 0 ≤ i ∧ i < L) (hd : decode code pc = .ok (.iaload, 1)) (k : lg_V E p e s m below meth c b cells slots (pc + 1) ls (.inl (xs i.toNat).toInt :: st) σ) : lg_V E p e s m below meth c b cells slots pc ls (.inl i :: .inr 98 :: st) σ := by
  obtain ⟨C1, c2, c3, c4, c5⟩ := C
  obtain ⟨x1, x2, x3, x4, x5, x6, x7, x8, x9, x10⟩ := C1
  intro H la hP hS hL
  have hb : ¬ fb_A E b := by
    show ¬ E.2.2.2.1 ≤ b
    omega
  have hin := fb_in hi.1 hi.2 (by omega)
  show W p E.1 e room_1 s m #[Value.ref b] below meth c H [] cells slots (lw_Z below #[Value.ref b] s) (F0 m pc la (.int (Int32.ofInt i) :: .ref (E.2.2.1 98) :: st.map (fb_cv E.2.2.1)))
  rw [c5]
  refine va_sld x1 x2 x7 x8 hb hS hin.1 hd ?_
  rw [hin.2]
  have := k H la hP hS hL
  rw [List.map_cons, show fb_cv E.2.2.1 (.inl (xs i.toNat).toInt) = .int (xs i.toNat) from by show Value.int (Int32.ofInt (xs i.toNat).toInt) = _; rw [Int32.ofInt_toInt]] at this
  exact this
theorem lg_call (C : lg_C E p s m meth c b L xs) {z : fb_M} {idx k ci np : Nat} {vs lz stk : List fb_X} {fds : List (Option Nat)} {R : String} {T : u_T} {N : Nat} (hd : decode code pc = .ok (.invokevirtual idx, 3)) (hw : fb_vw R_law z idx R) (hh : z.2.2.2.2 + 1 ≤ 9 ∧ 8 + (z.2.2.1 + 11) + 40 * z.2.2.2.2 ≤ 316) (hr : ∃ ty, z.2.2.2.1 = some ty) (hk : fb_shp[k]? = some (0, ci, fds)) (hc : fb_cl[ci]? = some (R, T, N)) (hpar : (parseMethodDescriptor z.1.desc).map (fun d => d.parameters.length) = some np) (hnp : vs.length = np) (hn : Nat.ble (vs.length + 1) z.2.2.1 = true) (hls : lz = (.inr k :: vs) ++ List.replicate (z.2.2.1 - (vs.length + 1)) (.inr 999)) (hst : Nat.ble st.length 8 = true) (hstk : vs.reverse ++ .inr k :: st = stk)
    (kk : fb_V E z 0 lz [] σ (fun r σ' => lg_V E p e s m below meth c b cells slots (pc + 3) ls (.inl r :: st) σ')) (hcs : cells ≤ 600000 ∧ slots ≤ 7302250) : lg_V E p e s m below meth c b cells slots pc ls stk σ := by
  obtain ⟨C1, c2, c3, c4, c5⟩ := C
  obtain ⟨x1, x2, x3, x4, x5, x6, x7, x8, x9, x10⟩ := C1
  subst hstk
  intro H la hP hS hL
  obtain ⟨w0, w1, w2, w3, w4, w5, w6, w7, w8⟩ := hw
  subst hnp
  have hn := Nat.le_of_ble_eq_true hn
  have hst := Nat.le_of_ble_eq_true hst
  have hM := fb_met (vs := .inr k :: vs) w8 hn hls kk
  have hQ : fb_Q E z (fun r σ' => lg_V E p e s m below meth c b cells slots (pc + 3) ls (.inl r :: st) σ') = va_Qi (fun (r : Int32) (u : Int × fb_S) => r = Int32.ofInt u.1 ∧ lg_V E p e s m below meth c b cells slots (pc + 3) ls (.inl u.1 :: st) u.2) (fun u t => va_P E.2.1 fb_cl (fb_W E u.2) t.heap) (fb_A E) := by unfold fb_Q; obtain ⟨ty, hr⟩ := hr; rw [hr]
  rw [hQ] at hM
  have key : ∀ w, w ∈ fb_WA → w ∈ lw_tbl ∧ ((w.onTables && w.keeps) = true ∨ ∃ ty, w = .arrayClass ty) := fun w h => ⟨(List.mem_filter.mp h).1, fb_good h⟩
  have hG : GoodIn lw_tbl (wsV R_law idx R z.1 (fb_ws z)) := by
    intro w hw
    rcases List.mem_append.mp (show w ∈ [.methodLink R_law idx z.1, .instanceMethod z.1, .selects R z.1 z.1, .initialized R] ++ fb_ws z from hw) with h | h
    · simp only [List.mem_cons, List.not_mem_nil, or_false] at h
      rcases h with rfl | rfl | rfl | rfl <;> exact key _ (by assumption)
    · rcases List.mem_cons.mp h with rfl | h
      · exact key _ w5
      · exact key w h
  have hrecv := va_recv c3.1 hP hc (fb_W_at hk)
  rw [fb_map_rev]
  refine va_calli (va_runV (As := vs.map (fb_cv E.2.2.1)) (rest := st.map (fb_cv E.2.2.1)) (b := E.2.2.1 k) (C := R) ⟨x1, x2, x4, x5, x6⟩ hM (cwV vs.length x6 hG rfl rfl rfl ⟨w0, w6, w7, hpar⟩ hh) ⟨fb_blind, hrecv, fun U hU hW => ⟨rfl, c2, c3.moved hW hS hU, by rw [hU]; exact hP⟩⟩ rfl (by rw [List.length_map]) (hL.1) rfl (lv_room (fb_rest _ st hst)) hd ⟨hcs.1, hcs.2⟩) hS (fun q _ h => h) (fun q h => h) (fun r u t H1 locs1 ht _ hpost hB _ _ hS1 => ?_)
  obtain ⟨rfl, hV⟩ := hpost
  rw [ht] at hB
  refine va_forget (fun q hq => ?_) (hV H1 la hB ⟨hS1.1, hS1.2.1, fun l h => absurd h List.not_mem_nil⟩ hL)
  have := hS1.2.2 q hq
  show s.heap.size ≤ q.base
  rw [← c4]
  exact this
theorem lg_end (C : lg_C E p s m meth c b L xs) (hd : decode code pc = .ok (.iconst 1, 1)) (hd2 : decode code (pc + 1) = .ok (.ireturn, 1)) (hcs : cells ≤ 600000 ∧ slots ≤ 7302250) : lg_V E p e s m below meth c b cells slots pc ls [] σ := by
  obtain ⟨C1, c2, c3, c4, c5⟩ := C
  obtain ⟨x1, x2, x3, x4, x5, x6, x7, x8, x9, x10⟩ := C1
  intro H la hP hS hL
  refine lv_iconst x1 x2 hd (v := 1) rfl ?_
  exact W.widen hcs.1 hcs.2 (lw_ret x1 x2 x3 x9 hd2)
end LG
