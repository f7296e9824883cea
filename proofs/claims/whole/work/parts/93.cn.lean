/-! constructors: rows -/
/-- what holds of the tables, for constructors -/
def cn_K (D : va_G) (cI cB cII : ClassId) (U : State) : Prop := va_K D fb_cl [(cI, .int), (cB, .boolean), (cII, .array .int)] U ∧ (∀ w ∈ fb_NW, va_Nw w U) ∧ (Cond.arrayOver (.array .int)).before #[] U = true
def cn_C (p : Program) (s : State) (m : MethodId) (args : Array Value) (meth : Method) (c : Code) (M : fb_M) (D : va_G) (cI cB cII : ClassId) (A : Nat → Prop) : Prop := p.tables.exec = Jvm.exec ∧ c.code = M.2.1 ∧ meth.sig.returnType = none ∧ c.maxLocals = M.2.2.1 ∧ s.vm.findClass M.1.cls = some m.cls ∧ (∀ w ∈ fb_ws M, w.before args s = true) ∧ meth.locks = false ∧ meth.name = "<init>" ∧ cn_K D cI cB cII s ∧ ∀ q, s.heap.size ≤ q → A q
section CN
variable {p : Program} {l : Launch} {e : Env} {R : Room} {s : State} {m : MethodId} {args : Array Value} {below : List Frame} {meth : Method} {c : Code} {cells slots : Nat} {Z : State → Prop}
variable {M : fb_M} {D : va_G} {cI cB cII : ClassId} {A : Nat → Prop} {la : Array Slot} {pc : Nat} {fs st : List Value} {ws : va_W}
theorem cn_K.moved {u U : State} (h : cn_K D cI cB cII u) (hW : u.WarmedH U.vm) : cn_K D cI cB cII U := ⟨va_K.moved hW.alike h.1, fun w hw => fb_NW_warm hw hW (h.2.1 w hw), over_moved hW.alike h.2.2⟩
theorem cn_K.calling {U : State} (h : cn_K D cI cB cII U) (g : JFrame) (mk : MethodId) (a : Array Value) : cn_K D cI cB cII (U.calling g mk a) :=
  ⟨va_K.moved (u := U) (U := U.calling g mk a) (Vm.Alike.refl U.vm) h.1, fun w hw => va_Nw.same (u := U) (U := U.calling g mk a) (fb_NW_on hw) rfl (h.2.1 w hw), over_moved (u := U) (E := U.calling g mk a) (Vm.Alike.refl U.vm) h.2.2⟩
/-- from here, with the cells ws -/
def cn_V (p : Program) (l : Launch) (e : Env) (R : Room) (s : State) (m : MethodId) (args : Array Value) (below : List Frame) (meth : Method) (c : Code) (D : va_G) (A : Nat → Prop) (la : Array Slot) (Z : State → Prop) (pc : Nat) (st : List Value) (ws : va_W) (cells slots : Nat) : Prop :=
  ∀ H locs, va_P D fb_cl ws H → va_D A ws → va_S A s.heap H locs → W p l e R s m args below meth c H locs cells slots Z (F0 m pc la st)
theorem cn_aload (X : cn_C p s m args meth c M D cI cB cII A) {i : Fin 4} {x : Nat} (hd : decode M.2.1 pc = .ok (.aload_n i, 1)) (hl : la[(i : Nat)]? = some (.val (.ref x))) (k : cn_V p l e R s m args below meth c D A la Z (pc + 1) (.ref x :: st) ws cells slots) : cn_V p l e R s m args below meth c D A la Z pc st ws cells slots := by
  intro H locs hP hD hS
  exact lv_aload_n X.1 X.2.1 hd rfl hl (k H locs hP hD hS)
theorem cn_bipush (X : cn_C p s m args meth c M D cI cB cII A) {n : Int} (hd : decode M.2.1 pc = .ok (.bipush n, 2)) {v : Int32} (hv : (Int8.ofInt n).toInt32 = v) (k : cn_V p l e R s m args below meth c D A la Z (pc + 2) (.int v :: st) ws cells slots) : cn_V p l e R s m args below meth c D A la Z pc st ws cells slots := by
  intro H locs hP hD hS
  exact lv_bipush X.1 X.2.1 hd hv (k H locs hP hD hS)
theorem cn_sipush (X : cn_C p s m args meth c M D cI cB cII A) {n : Int} (hd : decode M.2.1 pc = .ok (.sipush n, 3)) {v : Int32} (hv : (Int16.ofInt n).toInt32 = v) (k : cn_V p l e R s m args below meth c D A la Z (pc + 3) (.int v :: st) ws cells slots) : cn_V p l e R s m args below meth c D A la Z pc st ws cells slots := by
  intro H locs hP hD hS
  exact lv_sipush X.1 X.2.1 hd hv (k H locs hP hD hS)
theorem cn_iconst (X : cn_C p s m args meth c M D cI cB cII A) {n : Int} (hd : decode M.2.1 pc = .ok (.iconst n, 1)) {v : Int32} (hv : Int32.ofInt n = v) (k : cn_V p l e R s m args below meth c D A la Z (pc + 1) (.int v :: st) ws cells slots) : cn_V p l e R s m args below meth c D A la Z pc st ws cells slots := by
  intro H locs hP hD hS
  exact lv_iconst X.1 X.2.1 hd hv (k H locs hP hD hS)
theorem cn_dup (X : cn_C p s m args meth c M D cI cB cII A) {v : Value} (hv : v.category = 1) (hd : decode M.2.1 pc = .ok (.dup, 1)) (k : cn_V p l e R s m args below meth c D A la Z (pc + 1) (v :: v :: st) ws cells slots) : cn_V p l e R s m args below meth c D A la Z pc (v :: st) ws cells slots := by
  intro H locs hP hD hS
  exact lv_dup X.1 X.2.1 hd hv (k H locs hP hD hS)
theorem cn_RA (X : cn_K D cI cB cII s) : s.vm.findClass "[I" = some cI ∧ s.vm.findClass "[Z" = some cB ∧ s.vm.findClass "[[I" = some cII := ⟨(X.1.2 0 _ rfl).2, (X.1.2 1 _ rfl).2, (X.1.2 2 _ rfl).2⟩
theorem cn_newI (X : cn_C p s m args meth c M D cI cB cII A) {n : Int32} {N : Nat} (hd : decode M.2.1 pc = .ok (.newarray .int, 2)) (ha : Cond.arrayClass .int ∈ fb_WA) (hn : ¬ n < 0) (hN : n.toNatClampNeg = N) (hb : N ≤ 100000) (hc : cells + 1 ≤ R.cells) (hs : slots + N ≤ R.slots) (k : ∀ q, cn_V p l e R s m args below meth c D A la Z (pc + 2) (.ref q :: st) (ws ++ [(q, .inl (cI, N, .inl (fun _ => 0)))]) (cells + 1) (slots + N)) : cn_V p l e R s m args below meth c D A la Z pc (.int n :: st) ws cells slots := by
  obtain ⟨x1, x2, x3, x4, x5, x6, x7, x8, x9, x10⟩ := X
  intro H locs hP hD hS
  refine va_newa (atype := .int) (ty := .int) x1 x2 (x6 _ (List.mem_cons_of_mem _ ha)) rfl x9.1 hP hD hS x10 (a0 := (N, .inl (fun _ => 0))) (fun cA => rfl) hn hN (by show N * 4 ≤ _; omega) hc hs hd (fun q cA H1 hK hP1 hD1 hS1 => ?_)
  have e : s.vm.findClass "[I" = some cA := (hK.2 3 _ rfl).2
  rw [(cn_RA x9).1] at e
  cases e
  exact k q H1 locs hP1 hD1 hS1
theorem cn_newZ (X : cn_C p s m args meth c M D cI cB cII A) {n : Int32} {N : Nat} (hd : decode M.2.1 pc = .ok (.newarray .boolean, 2)) (ha : Cond.arrayClass .boolean ∈ fb_WA) (hn : ¬ n < 0) (hN : n.toNatClampNeg = N) (hb : N ≤ 100000) (hc : cells + 1 ≤ R.cells) (hs : slots + N ≤ R.slots) (k : ∀ q, cn_V p l e R s m args below meth c D A la Z (pc + 2) (.ref q :: st) (ws ++ [(q, .inl (cB, N, .inl (fun _ => 0)))]) (cells + 1) (slots + N)) : cn_V p l e R s m args below meth c D A la Z pc (.int n :: st) ws cells slots := by
  obtain ⟨x1, x2, x3, x4, x5, x6, x7, x8, x9, x10⟩ := X
  intro H locs hP hD hS
  refine va_newa (atype := .boolean) (ty := .boolean) x1 x2 (x6 _ (List.mem_cons_of_mem _ ha)) rfl x9.1 hP hD hS x10 (a0 := (N, .inl (fun _ => 0))) (fun cA => rfl) hn hN (by show N * 1 ≤ _; omega) hc hs hd (fun q cA H1 hK hP1 hD1 hS1 => ?_)
  have e : s.vm.findClass "[Z" = some cA := (hK.2 3 _ rfl).2
  rw [(cn_RA x9).2.1] at e
  cases e
  exact k q H1 locs hP1 hD1 hS1
theorem cn_putF (X : cn_C p s m args meth c M D cI cB cII A) {C : String} {T : u_T} {N ci idx a : Nat} (q0 : Nat) {fs : List Value} (he : ws[q0]? = some (a, .inr (ci, fs))) (hc : fb_cl[ci]? = some (C, T, N)) (k : Nat) (hk : k < N) (hlink : Cond.fieldLink M.1.cls idx (T k).1 (T k).2.1 (T k).2.2.1 ∈ fb_WA) (hfin : (T k).2.2.2 = true) (hdecl : (T k).1 = M.1.cls) {ty : FieldType} {v : Value} (hd : parseFieldDescriptor (T k).2.2.1 = some ty) (hn : narrow ty v = v) (hfit : fits ty v = true) (hl : k < fs.length) (hdg : decode M.2.1 pc = .ok (.putfield idx, 3)) {ws' : va_W} (hw' : ws.set q0 (a, .inr (ci, fs.set k v)) = ws') (kk : cn_V p l e R s m args below meth c D A la Z (pc + 3) st ws' cells slots) : cn_V p l e R s m args below meth c D A la Z pc (v :: .ref a :: st) ws cells slots := by
  obtain ⟨x1, x2, x3, x4, x5, x6, x7, x8, x9, x10⟩ := X
  subst hw'
  obtain ⟨ty0, hty, hnm⟩ := fb_cl_ty hc
  intro H locs hP hD hS
  exact va_putF (T := T) x1 x2 x6 (fun w hw => List.mem_cons_of_mem _ (fb_cl_ws hc w hw)) ty0 hty hnm x5 x9.1 hP hD hS q0 he hc k hk (x6 _ (List.mem_cons_of_mem _ hlink)) (fun _ h => h) hfin x8 hdecl hd hn hfit hl hdg (fun H1 locs1 hP1 hD1 hS1 => kk H1 locs1 hP1 hD1 hS1)
theorem cn_put (X : cn_C p s m args meth c M D cI cB cII A) {C : String} {T : u_T} {N ci idx a : Nat} (q0 : Nat) {fs : List Value} (he : ws[q0]? = some (a, .inr (ci, fs))) (hc : fb_cl[ci]? = some (C, T, N)) (k : Nat) (hk : k < N) (hlink : Cond.fieldLink M.1.cls idx (T k).1 (T k).2.1 (T k).2.2.1 ∈ fb_WA) (hfin : (T k).2.2.2 = false) {ty : FieldType} {v : Value} (hd : parseFieldDescriptor (T k).2.2.1 = some ty) (hn : narrow ty v = v) (hfit : fits ty v = true) (hl : k < fs.length) (hdg : decode M.2.1 pc = .ok (.putfield idx, 3)) {ws' : va_W} (hw' : ws.set q0 (a, .inr (ci, fs.set k v)) = ws') (kk : cn_V p l e R s m args below meth c D A la Z (pc + 3) st ws' cells slots) : cn_V p l e R s m args below meth c D A la Z pc (v :: .ref a :: st) ws cells slots := by
  obtain ⟨x1, x2, x3, x4, x5, x6, x7, x8, x9, x10⟩ := X
  subst hw'
  obtain ⟨ty0, hty, hnm⟩ := fb_cl_ty hc
  intro H locs hP hD hS
  exact va_put (T := T) x1 x2 x6 (fun w hw => List.mem_cons_of_mem _ (fb_cl_ws hc w hw)) ty0 hty hnm x5 x9.1 hP hD hS q0 he hc k hk (x6 _ (List.mem_cons_of_mem _ hlink)) (fun _ h => h) hfin hd hn hfit hl hdg (fun H1 locs1 hP1 hD1 hS1 => kk H1 locs1 hP1 hD1 hS1)
theorem cn_get (X : cn_C p s m args meth c M D cI cB cII A) {C : String} {T : u_T} {N ci idx a : Nat} (q0 : Nat) {fs : List Value} (he : ws[q0]? = some (a, .inr (ci, fs))) (hc : fb_cl[ci]? = some (C, T, N)) (k : Nat) (hk : k < N) (hlink : Cond.fieldLink M.1.cls idx (T k).1 (T k).2.1 (T k).2.2.1 ∈ fb_WA) {v : Value} (hv : fs[k]? = some v) (hdg : decode M.2.1 pc = .ok (.getfield idx, 3)) (kk : cn_V p l e R s m args below meth c D A la Z (pc + 3) (v :: st) ws cells slots) : cn_V p l e R s m args below meth c D A la Z pc (.ref a :: st) ws cells slots := by
  obtain ⟨x1, x2, x3, x4, x5, x6, x7, x8, x9, x10⟩ := X
  intro H locs hP hD hS
  exact va_get (T := T) x1 x2 x6 (fun w hw => List.mem_cons_of_mem _ (fb_cl_ws hc w hw)) x5 x9.1 hP q0 he hc k hk (x6 _ (List.mem_cons_of_mem _ hlink)) (fun _ h => h) hv hdg (kk H locs hP hD hS)
theorem cn_obj (X : cn_C p s m args meth c M D cI cB cII A) {idx a : Nat} (h1 : Cond.methodLink M.1.cls idx Lib.objectInit ∈ fb_WA) (h2 : Cond.instanceMethod Lib.objectInit ∈ fb_WA) (h3 : Cond.code Lib.objectInit ⟨#[0xb1]⟩ 1 none ∈ fb_WA) (hla : la.size = M.2.2.1) (hdg : decode M.2.1 pc = .ok (.invokespecial idx, 3)) (hR : 1 ≤ R.frames ∧ 12 ≤ R.locals) (kk : cn_V p l e R s m args below meth c D A la Z (pc + 3) [] ws cells slots) : cn_V p l e R s m args below meth c D A la Z pc [.ref a] ws cells slots := by
  obtain ⟨x1, x2, x3, x4, x5, x6, x7, x8, x9, x10⟩ := X
  intro H locs hP hD hS
  refine W.objInit x1 x2 x5 (x6 _ (List.mem_cons_of_mem _ h1)) (x6 _ (List.mem_cons_of_mem _ h2)) (x6 _ (List.mem_cons_of_mem _ h3)) rfl (by rw [x4]; exact hla) rfl hdg hR.1 hR.2 ?_
  exact W.eq (g2 := F0 m (pc + 3) la []) rfl (kk H locs hP hD hS)
theorem cn_mna (X : cn_C p s m args meth c M D cI cB cII A) {idx : Nat} (h1 : Cond.classLink M.1.cls idx "[[I" ∈ fb_WA) (ha : Cond.arrayClass .int ∈ fb_WA) (hc : cells + 7 ≤ R.cells) (hs : slots + 42 ≤ R.slots) (hdg : decode M.2.1 pc = .ok (.multianewarray idx 2, 4)) (k : ∀ (q : Nat) (r : Nat → Nat), cn_V p l e R s m args below meth c D A la Z (pc + 4) (.ref q :: st) (ws ++ [(q, .inl (cII, 6, .inr (.inr (.inr (.inr (fun i => if i < 6 then some (r i) else none)))))), (r 0, .inl (cI, 6, .inl (fun _ => 0))), (r 1, .inl (cI, 6, .inl (fun _ => 0))), (r 2, .inl (cI, 6, .inl (fun _ => 0))), (r 3, .inl (cI, 6, .inl (fun _ => 0))), (r 4, .inl (cI, 6, .inl (fun _ => 0))), (r 5, .inl (cI, 6, .inl (fun _ => 0)))]) (cells + 7) (slots + 42)) : cn_V p l e R s m args below meth c D A la Z pc (.int 6 :: .int 6 :: st) ws cells slots := by
  obtain ⟨x1, x2, x3, x4, x5, x6, x7, x8, x9, x10⟩ := X
  intro H locs hP hD hS
  have e0 : ws ++ va_pl [] (fun _ => (.inl (cI, 6, .inl (fun _ => 0)) : va_E)) = ws := List.append_nil ws
  refine va_mna (N' := 6) (K' := 6) (X := ws) (L := []) (f := fun _ => .inl (cI, 6, .inl (fun _ => 0))) (ty := .int) (cy := cI) (z := (6, .inl (fun _ => 0))) x1 x2 x5 (x6 _ (List.mem_cons_of_mem _ h1)) (va_AOA.of x9.2.2) (x6 _ (List.mem_cons_of_mem _ ha)) (cn_RA x9).1 x9.1 (by rw [e0]; exact hP) (by rw [e0]; exact hD) hS x10 (by decide) (by decide) rfl rfl (by decide) (by decide) (by decide) rfl rfl hc hs (fun c => rfl) hdg (fun q r cA H1 _ _ hK hP1 hD1 hS1 => ?_)
  have e : s.vm.findClass "[[I" = some cA := (hK.2 3 _ rfl).2
  rw [(cn_RA x9).2.2] at e
  cases e
  have ew : (ws ++ [(q, (.inl (cII, 6, .inr (.inr (.inr (.inr (fun i => if i < 6 then some (r i) else none))))) : va_E))]) ++ va_pl ([] ++ (List.range 6).map r) (vr_up (fun _ => .inl (cI, 6, .inl (fun _ => 0))) ((List.range 6).map r) (.inl (cI, (6, .inl (fun _ => 0))))) = ws ++ [(q, .inl (cII, 6, .inr (.inr (.inr (.inr (fun i => if i < 6 then some (r i) else none)))))), (r 0, .inl (cI, 6, .inl (fun _ => 0))), (r 1, .inl (cI, 6, .inl (fun _ => 0))), (r 2, .inl (cI, 6, .inl (fun _ => 0))), (r 3, .inl (cI, 6, .inl (fun _ => 0))), (r 4, .inl (cI, 6, .inl (fun _ => 0))), (r 5, .inl (cI, 6, .inl (fun _ => 0)))] := by
    have eu : vr_up (fun _ => (.inl (cI, 6, .inl (fun _ => 0)) : va_E)) ((List.range 6).map r) (.inl (cI, (6, .inl (fun _ => 0)))) = fun _ => .inl (cI, 6, .inl (fun _ => 0)) := by
      funext a
      unfold vr_up
      split <;> rfl
    rw [eu, List.append_assoc]
    rfl
  have hP2 : va_P D fb_cl _ H1 := hP1
  have hD2 : va_D A _ := hD1
  rw [ew] at hP2 hD2
  exact k q r H1 locs hP2 hD2 hS1
theorem cn_join {D : va_G} {A0 : Nat → Prop} {wr w1 : va_W} {b : Nat} {x : va_E} {H H1 : Heap} (hP : va_P D fb_cl (wr ++ [(b, x)]) H) (hD : va_D A0 (wr ++ [(b, x)])) (hk : ∀ q : Nat, q < H.size → ¬ va_A [(b, x)] H.size q → H1[q]? = H[q]?) (hF : ∀ q, va_A [(b, x)] H.size q → A0 q) (hP1 : va_P D fb_cl w1 H1) (hD1 : va_D (va_A [(b, x)] H.size) w1) : va_P D fb_cl (wr ++ w1) H1 ∧ va_D A0 (wr ++ w1) := by
  have in1 : ∀ (k : Nat) (q : Nat × va_E), wr[k]? = some q → (wr ++ [(b, x)])[k]? = some q ∧ k < wr.length := fun k q h => by
    have hl := (List.getElem?_eq_some_iff.mp h).1
    exact ⟨by rw [List.getElem?_append_left hl]; exact h, hl⟩
  have hb : (wr ++ [(b, x)])[wr.length]? = some (b, x) := by rw [List.getElem?_append_right (Nat.le_refl _), Nat.sub_self]; rfl
  have out : ∀ (k : Nat) (q : Nat × va_E), wr[k]? = some q → q.1 < H.size ∧ ¬ va_A [(b, x)] H.size q.1 := fun k q h => by
    have h1 := in1 k q h
    have hlt : q.1 < H.size := (hP k q h1.1).lt
    refine ⟨hlt, fun hA => ?_⟩
    rcases hA with ⟨j, e, hj⟩ | hA
    · have hj0 : j < 1 := (List.getElem?_eq_some_iff.mp hj).1
      rw [show j = 0 by omega] at hj
      have e2 : b = q.1 := congrArg (fun z : Option (Nat × va_E) => (z.getD (0, e)).1) hj
      have := hD.1 k wr.length q (b, x) h1.1 hb e2.symm
      omega
    · omega
  have hPr : va_P D fb_cl wr H := fun k q h => hP k q (in1 k q h).1
  have hDr : va_D A0 wr := ⟨fun i j p q hi hj e => hD.1 i j p q (in1 i p hi).1 (in1 j q hj).1 e, fun k q h => hD.2 k q (in1 k q h).1⟩
  refine ⟨(hPr.kept (fun k q h => hk q.1 (out k q h).1 (out k q h).2)).app hP1, hDr.app (hD1.weaken (fun _ q _ h => hF q.1 h)) (fun i j p q hi hj e => ?_)⟩
  exact (out i p hi).2 (by rw [e]; exact hD1.2 j q hj)
/-- a constructor's contract: what it is called with, what it leaves -/
def cn_P (D : va_G) (cI cB cII : ClassId) (vs : List Value) (ws0 : va_W) (sz : Nat) : Array Value → State → Prop := va_Pc vs (fun U => U.heap.size = sz ∧ cn_K D cI cB cII U ∧ va_P D fb_cl ws0 U.heap ∧ va_D (fun _ => True) ws0)
def cn_Q {G : Type} (D : va_G) (wf : G → va_W) (A : Nat → Prop) : Array Value → State → Outcome → State → Prop := va_Qv (fun _ : G => True) (fun g t => va_P D fb_cl (wf g) t.heap ∧ va_D A (wf g)) A
theorem cn_blind {vs : List Value} {ws0 : va_W} {sz : Nat} : FrameBlind (cn_P D cI cB cII vs ws0 sz) := by
  intro a U g mk q
  obtain ⟨q0, q1, qK, qP, qD⟩ := q
  exact ⟨q0, q1, qK.calling g mk a, qP, qD⟩
abbrev cn_R (h cells slots : Nat) : Room := { frames := h, cells := cells, slots := slots, locals := 40 * h }
theorem cn_one {b : Nat} {x : va_E} {H : Heap} {wr : va_W} (hP : va_P D fb_cl (wr ++ [(b, x)]) H) : va_P D fb_cl [(b, x)] H := by
  intro k q h
  have hk : k < 1 := (List.getElem?_eq_some_iff.mp h).1
  rw [show k = 0 by omega] at h
  exact hP wr.length q (by rw [List.getElem?_append_right (Nat.le_refl _), Nat.sub_self]; exact h)
theorem cn_oneD {b : Nat} {x : va_E} {B : Nat → Prop} (hB : B b) : va_D B [(b, x)] := by
  refine ⟨fun i j p q hi hj _ => ?_, fun k q h => ?_⟩
  · have h1 := (List.getElem?_eq_some_iff.mp hi).1
    have h2 := (List.getElem?_eq_some_iff.mp hj).1
    simp at h1 h2
    omega
  · have hk : k < 1 := (List.getElem?_eq_some_iff.mp h).1
    rw [show k = 0 by omega] at h
    have e : (b, x) = q := Option.some.inj h
    rw [← e]
    exact hB
theorem cn_freeA {b : Nat} {x : va_E} {H : Heap} {locs : List Loc} {wr : va_W} (hD : va_D A (wr ++ [(b, x)])) (hS : va_S A s.heap H locs) (hA : ∀ q, s.heap.size ≤ q → A q) : ∀ q, va_A [(b, x)] H.size q → A q := by
  intro q h
  rcases h with ⟨j, e, hj⟩ | h
  · have hj0 : j < 1 := (List.getElem?_eq_some_iff.mp hj).1
    rw [show j = 0 by omega] at hj
    have e2 : (b, x) = (q, e) := Option.some.inj hj
    have := hD.2 wr.length (b, x) (by rw [List.getElem?_append_right (Nat.le_refl _), Nat.sub_self]; rfl)
    rw [e2] at this
    exact this
  · exact hA q (Nat.le_trans hS.1 h)
theorem cn_call {G : Type} {z : fb_M} {b mc ms idx n : Nat} {x : va_E} {h : Nat} {As : List Value} {wf : G → va_W} {wr : va_W} (X : cn_C p s m args meth c M D cI cB cII A) (hM : ∀ sz, Met l z.1 (fb_ws z) (cn_R h mc ms) (cn_P D cI cB cII (.ref b :: As) [(b, x)] sz) (cn_Q D wf (va_A [(b, x)] sz)) mc ms (va_A [(b, x)] sz)) (hz : z.2.2.2.1 = none) (hcd : fb_cd z) (w1 : Cond.methodLink M.1.cls idx z.1 ∈ fb_WA) (w2 : Cond.instanceMethod z.1 ∈ fb_WA) (w3 : Cond.initialized z.1.cls ∈ fb_WA) (hi : z.1.name = "<init>") (hd : z.1.cls ≠ "java/lang/invoke/MethodHandle" ∧ z.1.cls ≠ "java/lang/invoke/VarHandle" ∧ (parseMethodDescriptor z.1.desc).map (fun d => d.parameters.length) = some n) (hn : As.length = n) (hR : h + 1 ≤ R.frames ∧ 8 + (z.2.2.1 + 11) + 40 * h ≤ R.locals) (hla : la.size = M.2.2.1) (hst : (st.map fun v => v.category).sum ≤ 8) (hdg : decode M.2.1 pc = .ok (.invokespecial idx, 3)) (hc : cells + mc ≤ R.cells ∧ slots + ms ≤ R.slots) {stk : List Value} (hstk : As.reverse ++ .ref b :: st = stk)
    (k : ∀ g : G, cn_V p l e R s m args below meth c D A la Z (pc + 3) st (wr ++ wf g) (cells + mc) (slots + ms)) : cn_V p l e R s m args below meth c D A la Z pc stk (wr ++ [(b, x)]) cells slots := by
  subst hstk
  obtain ⟨x1, x2, x3, x4, x5, x6, x7, x8, x9, x10⟩ := X
  intro H locs hP hD hS
  have hG : GoodIn (fb_ws M) (fb_ws z) := fb_goodIn (pre := []) (fun w hw => absurd hw List.not_mem_nil) hcd
  have hF := cn_freeA hD hS x10
  obtain ⟨y, code, mL, rt', ht⟩ := z
  cases hz
  refine va_callv (va_runI (As := As) (rest := st) ⟨x1, x2, x4, x5, x6⟩ (hM H.size) (cwI n x6 hG rfl rfl rfl (x6 _ (List.mem_cons_of_mem _ w3)) (x6 _ (List.mem_cons_of_mem _ w1)) (x6 _ (List.mem_cons_of_mem _ w2)) hi hd hR) ⟨cn_blind, fun U hU hW => ⟨rfl, by rw [hU], x9.moved hW, by rw [hU]; exact cn_one hP, cn_oneD trivial⟩⟩ rfl hn hla rfl (lv_room hst) hdg hc) hS (fun q _ h => hF q h) hF (fun g t H1 locs1 ht' hvm _ hB hz1 hk1 hS1 => ?_)
  obtain ⟨hP1, hD1⟩ := hB
  rw [ht'] at hP1
  obtain ⟨hP2, hD2⟩ := cn_join hP hD hk1 hF hP1 hD1
  exact k g H1 locs1 hP2 hD2 hS1
theorem cn_callN {G : Type} {z : fb_M} {b mc ms idx n : Nat} {x : va_E} {h : Nat} {As : List Value} {wf : G → va_W} {wr : va_W} (X : cn_C p s m args meth c M D cI cB cII A) (hM : ∀ sz, Met l z.1 (fb_ws z) (cn_R h mc ms) (cn_P D cI cB cII (.ref b :: As) [(b, x)] sz) (cn_Q D wf (va_A [(b, x)] sz)) mc ms (va_A [(b, x)] sz)) (hz : z.2.2.2.1 = none) (hcd : fb_cd z) (w1 : Cond.methodLinkNest M.1.cls idx z.1 "FrameBackEnd" ∈ fb_NW) (w2 : Cond.instanceMethod z.1 ∈ fb_WA) (w3 : Cond.initialized z.1.cls ∈ fb_WA) (hi : z.1.name = "<init>") (hd : z.1.cls ≠ "java/lang/invoke/MethodHandle" ∧ z.1.cls ≠ "java/lang/invoke/VarHandle" ∧ (parseMethodDescriptor z.1.desc).map (fun d => d.parameters.length) = some n) (hn : As.length = n) (hR : h + 1 ≤ R.frames ∧ 8 + (z.2.2.1 + 11) + 40 * h ≤ R.locals) (hla : la.size = M.2.2.1) (hst : (st.map fun v => v.category).sum ≤ 8) (hdg : decode M.2.1 pc = .ok (.invokespecial idx, 3)) (hc : cells + mc ≤ R.cells ∧ slots + ms ≤ R.slots) {stk : List Value} (hstk : As.reverse ++ .ref b :: st = stk)
    (k : ∀ g : G, cn_V p l e R s m args below meth c D A la Z (pc + 3) st (wr ++ wf g) (cells + mc) (slots + ms)) : cn_V p l e R s m args below meth c D A la Z pc stk (wr ++ [(b, x)]) cells slots := by
  subst hstk
  obtain ⟨x1, x2, x3, x4, x5, x6, x7, x8, x9, x10⟩ := X
  intro H locs hP hD hS
  have hG : GoodIn (fb_ws M) (fb_ws z) := fb_goodIn (pre := []) (fun w hw => absurd hw List.not_mem_nil) hcd
  have hF := cn_freeA hD hS x10
  obtain ⟨y, code, mL, rt', ht⟩ := z
  cases hz
  refine va_callv (va_runIN (As := As) (rest := st) ⟨x1, x2, x4, x5, x6⟩ (hM H.size) ⟨va_cnB n x6 hG rfl rfl rfl (x9.2.1 _ w1) (x6 _ (List.mem_cons_of_mem _ w3)) hd hR, hi, x6 _ (List.mem_cons_of_mem _ w2)⟩ ⟨cn_blind, fun U hU hW => ⟨rfl, by rw [hU], x9.moved hW, by rw [hU]; exact cn_one hP, cn_oneD trivial⟩⟩ rfl hn hla rfl (lv_room hst) hdg hc) hS (fun q _ h => hF q h) hF (fun g t H1 locs1 ht' hvm _ hB hz1 hk1 hS1 => ?_)
  obtain ⟨hP1, hD1⟩ := hB
  rw [ht'] at hP1
  obtain ⟨hP2, hD2⟩ := cn_join hP hD hk1 hF hP1 hD1
  exact k g H1 locs1 hP2 hD2 hS1
theorem cn_new (X : cn_C p s m args meth c M D cI cB cII A) {C : String} {T : u_T} {N ci idx : Nat} (hc : fb_cl[ci]? = some (C, T, N)) (w1 : Cond.classLink M.1.cls idx C ∈ fb_WA) (w2 : Cond.instantiable C N ∈ fb_WA) (w3 : Cond.initialized C ∈ fb_WA) {fs : List Value} (ty : Nat → FieldType) (hty : ∀ k, k < N → parseFieldDescriptor (T k).2.2.1 = some (ty k)) (hfs : ∀ j, j < N → defaultValue (ty j) = vp_V fs j) (hce : cells + 1 ≤ R.cells) (hsl : slots + N ≤ R.slots) (hdg : decode M.2.1 pc = .ok (.new idx, 3)) (k : ∀ q, cn_V p l e R s m args below meth c D A la Z (pc + 3) (.ref q :: st) (ws ++ [(q, .inr (ci, fs))]) (cells + 1) (slots + N)) : cn_V p l e R s m args below meth c D A la Z pc st ws cells slots := by
  obtain ⟨x1, x2, x3, x4, x5, x6, x7, x8, x9, x10⟩ := X
  intro H locs hP hD hS
  exact va_new (T := T) x1 x2 x6 (fun w hw => List.mem_cons_of_mem _ (fb_cl_ws hc w hw)) ty hty x5 (x6 _ (List.mem_cons_of_mem _ w1)) (x6 _ (List.mem_cons_of_mem _ w2)) (x6 _ (List.mem_cons_of_mem _ w3)) x9.1 hP hD hS x10 hc hfs hce hsl hdg (fun q H1 hP1 hD1 hS1 => k q H1 locs hP1 hD1 hS1)
theorem cn_vret {G : Type} {wf : G → va_W} (X : cn_C p s m args meth c M D cI cB cII A) (hdg : decode M.2.1 pc = .ok (.return_, 1)) (g : G) (hw : wf g = ws) : cn_V p l e R s m args below meth c D A la (MQ below (cn_Q D wf A) args s cells slots A) pc [] ws cells slots := by
  obtain ⟨x1, x2, x3, x4, x5, x6, x7, x8, x9, x10⟩ := X
  subst hw
  intro H locs hP hD hS
  refine W.vret x1 x2 x3 (fun t ht _ => ?_) hS.2.2 hdg x7
  exact ⟨⟨g, rfl, trivial, by rw [ht]; exact hP, hD⟩, hS.F ht⟩
/-- the contract out of the walk -/
theorem cn_met {G : Type} {wf : G → va_W} {vs : List Value} {h0 : Nat} {x : va_E} {h mc ms : Nat} (hpl : plainName M.1.cls = true) (hi : M.1.name = "<init>") (hz : M.2.2.2.1 = none) (hn : (lg_sl vs).length ≤ M.2.2.1)
    (hV : ∀ p e s m args below meth c la, cn_C p s m args meth c M D cI cB cII (va_A [(h0, x)] s.heap.size) → lv_has la M.2.2.1 (lv_args 0 vs) → cn_V p l e (cn_R h mc ms) s m args below meth c D (va_A [(h0, x)] s.heap.size) la (MQ below (cn_Q D wf (va_A [(h0, x)] s.heap.size)) args s mc ms (va_A [(h0, x)] s.heap.size)) 0 [] [(h0, x)] 0 0) (sz : Nat) : Met l M.1 (fb_ws M) (cn_R h mc ms) (cn_P D cI cB cII vs [(h0, x)] sz) (cn_Q D wf (va_A [(h0, x)] sz)) mc ms (va_A [(h0, x)] sz) := by
  refine Met.ofW (cc := M.2.1) (maxL := M.2.2.1) (ret := M.2.2.2.1) hpl rfl ?_
  intro p e s m args below meth c s₁ B hml hv
  obtain ⟨rfl, hsz, hK, hP, hD⟩ := hv
  have hts := atoms_spec (ws := fb_ws M) B.pre
  have hown : s.vm.findClass M.1.cls = some m.cls := findClass_of_methodNamed B.named
  have hin : meth.name = "<init>" := (name_of_methodNamed B.named B.method).1.trans hi
  subst hsz
  rw [lg_entry_eq]
  exact hV p e s m _ below meth c _ ⟨B.exec, B.bytes, B.returns.trans hz, hml, hown, hts, B.notSynchronized, hin, hK, fun q hq => Or.inr hq⟩ (lv_entry vs hn) s.heap [] hP (hD.self) va_S.rf
end CN
