/-! the law, whole -/
section WS
variable {p : Program} {e : Env} {s : State} {m : MethodId} {below : List Frame} {meth : Method} {c : Code} {l : Launch} {b L : Nat} {xs : Nat → Int32} {D : va_G} {cI cB cII : ClassId} {Z : State → Prop}
theorem lw_made {G : Type} {z : fb_M} {q mc ms idx h pc cells slots : Nat} {x : va_E} {wf : G → va_W} {wr : va_W} {H : Heap} {locs : List Loc} {la : Array Slot} {rest : List Value} (C0 : lw_At p s m meth c b L xs) (K : cn_K D cI cB cII s) (hM : ∀ sz, Met l z.1 (fb_ws z) (cn_R h mc ms) (cn_P D cI cB cII [.ref q] [(q, x)] sz) (cn_Q D wf (va_A [(q, x)] sz)) mc ms (va_A [(q, x)] sz)) (hz : z.2.2.2.1 = none) (hcd : fb_cd z) (w1 : Cond.methodLink R_law idx z.1 ∈ fb_WA) (w2 : Cond.instanceMethod z.1 ∈ fb_WA) (w3 : Cond.initialized z.1.cls ∈ fb_WA) (hi : z.1.name = "<init>") (hd : z.1.cls ≠ "java/lang/invoke/MethodHandle" ∧ z.1.cls ≠ "java/lang/invoke/VarHandle" ∧ (parseMethodDescriptor z.1.desc).map (fun d => d.parameters.length) = some 0) (hR : h + 1 ≤ 9 ∧ 8 + (z.2.2.1 + 11) + 40 * h ≤ 316) (hla : la.size = 4) (hst : (rest.map fun v => v.category).sum ≤ 8) (hdg : decode code pc = .ok (.invokespecial idx, 3)) (hc : cells + mc ≤ 600000 ∧ slots + ms ≤ 7302250)
    (hP : va_P D fb_cl (wr ++ [(q, x)]) H) (hD : va_D (fun a => s.heap.size ≤ a) (wr ++ [(q, x)])) (hS : va_S (fun a => s.heap.size ≤ a) s.heap H locs)
    (k : ∀ (g : G) (H1 : Heap) (locs1 : List Loc), va_P D fb_cl (wr ++ wf g) H1 → va_D (fun a => s.heap.size ≤ a) (wr ++ wf g) → va_S (fun a => s.heap.size ≤ a) s.heap H1 locs1 → W p l e room_1 s m #[Value.ref b] below meth c H1 locs1 (cells + mc) (slots + ms) Z (F0 m (pc + 3) la rest)) : W p l e room_1 s m #[Value.ref b] below meth c H locs cells slots Z (F0 m pc la (.ref q :: rest)) := by
  obtain ⟨x1, x2, x3, x4, x5, x6, x7, x8, x9, x10⟩ := C0
  have hG : GoodIn lw_tbl (fb_ws z) := by
    intro w hw
    have key : ∀ w, w ∈ fb_WA → w ∈ lw_tbl ∧ ((w.onTables && w.keeps) = true ∨ ∃ ty, w = .arrayClass ty) := fun w h => ⟨(List.mem_filter.mp h).1, fb_good h⟩
    rcases List.mem_cons.mp hw with rfl | h
    · exact key _ hcd
    · exact key w h
  have hF := cn_freeA hD hS (fun a ha => ha)
  obtain ⟨y, code', mL, rt', ht⟩ := z
  cases hz
  refine va_callv (va_runI (As := []) (rest := rest) ⟨x1, x2, x4, x5, x6⟩ (hM H.size) (cwI 0 x6 hG rfl rfl rfl (x6 _ (st_tb w3)) (x6 _ (st_tb w1)) (x6 _ (st_tb w2)) hi hd hR) ⟨cn_blind, fun U hU hW => ⟨rfl, by rw [hU], K.moved hW, by rw [hU]; exact cn_one hP, cn_oneD trivial⟩⟩ rfl rfl hla rfl (lv_room hst) hdg hc) hS (fun a _ h => hF a h) hF (fun g t H1 locs1 ht' hvm _ hB hz1 hk1 hS1 => ?_)
  obtain ⟨hP1, hD1⟩ := hB
  rw [ht'] at hP1
  obtain ⟨hP2, hD2⟩ := cn_join hP hD hk1 hF hP1 hD1
  exact k g H1 locs1 hP2 hD2 hS1
end WS
-- ===== YOUR PART BEGINS =====
set_option maxHeartbeats 4000000 in
set_option maxRecDepth 100000 in
/-- from the entry, for every script of at most 2560 ints, the law comes to its end with true -/
theorem whole_start {p : Program} {e : Env} {s : State} {m : MethodId} {below : List Frame} {meth : Method} {c : Code} (l : Launch) {b L : Nat} {xs : Nat → Int32} (hL : L ≤ 2560) (C0 : lw_At p s m meth c b L xs) : W p l e room_1 s m #[Value.ref b] below meth c s.heap [] 0 0 (lw_Z below #[Value.ref b] s) (entryFrame m ([Value.ref b] : List Value).toArray 4) := by
  obtain ⟨D, cI, cB, cII, K⟩ := st_K C0
  obtain ⟨t, hZ, hT⟩ := st_T C0
  have C1 := C0
  obtain ⟨x1, x2, x3, x4, x5, x6, x7, x8, x9, x10⟩ := C1
  have hl := lv_entry ([.ref b]) (n := 4) (Nat.le_of_ble_eq_true rfl)
  rw [lg_entry_eq]
  generalize (lg_sl ([.ref b]) ++ List.replicate (4 - (lg_sl ([.ref b])).length) Slot.unset).toArray = la at hl ⊢
  have hl : lv_has la 4 [(0, .ref b)] := hl
  have hP0 : va_P D fb_cl [] s.heap := fun k q h => by simp at h
  have hD0 : va_D (fun a => s.heap.size ≤ a) [] := ⟨fun i j p q h => by simp at h, fun k q h => by simp at h⟩
  refine va_new (ci := 0) (fs := fd_0) (C := "FrameBackEnd") (T := fb_T0) (N := 5) x1 x2 x6 (fun w hw => st_tb (fb_w0 w hw)) ft_0 fty_0 x5 (x6 _ (st_tb (fb_tb1 9 rfl rfl))) (x6 _ (st_tb (fb_tb1 10 rfl rfl))) (x6 _ (st_tb (fb_tb1 1 rfl rfl))) K.1 hP0 hD0 va_S.rf (fun q h => h) rfl fdf_0 (Nat.le_of_ble_eq_true rfl) (Nat.le_of_ble_eq_true rfl) dd_law_0 (fun q1 H hP hD hS => ?_)
  refine lv_dup x1 x2 dd_law_3 rfl ?_
  refine lw_made (wr := []) C0 K (cn_Fb l D cI cB cII q1) rfl cd_Fb_init (fb_tb1 11 rfl rfl) (fb_tb1 12 rfl rfl) (fb_tb1 1 rfl rfl) rfl ⟨by decide, by decide, by decide +kernel⟩ ⟨by decide, by decide⟩ hl.1 (Nat.le_of_ble_eq_true rfl) dd_law_4 ⟨by decide, by decide⟩ hP hD hS (fun u H1 locs1 hP hD hS => ?_)
  refine lv_astore_n x1 x2 dd_law_7 rfl hl (by decide) rfl (fun la hl => ?_)
  have hl : lv_has la 4 [(1, .ref q1), (0, .ref b)] := hl
  refine va_new (ci := 5) (fs := fd_5) (C := "FrameBackEndModel") (T := fb_T5) (N := 30) x1 x2 x6 (fun w hw => st_tb (fb_w5 w hw)) ft_5 fty_5 x5 (x6 _ (st_tb (fb_tb3 129 rfl rfl))) (x6 _ (st_tb (fb_tb3 130 rfl rfl))) (x6 _ (st_tb (fb_tb1 6 rfl rfl))) K.1 hP hD hS (fun q h => h) rfl fdf_5 (Nat.le_of_ble_eq_true rfl) (Nat.le_of_ble_eq_true rfl) dd_law_8 (fun q2 H2 hP hD hS => ?_)
  refine lv_dup x1 x2 dd_law_11 rfl ?_
  refine lw_made C0 K (cn_Mo l D cI cB cII q2) rfl cd_Mo_init (fb_tb3 131 rfl rfl) (fb_tb3 132 rfl rfl) (fb_tb1 6 rfl rfl) rfl ⟨by decide, by decide, by decide +kernel⟩ ⟨by decide, by decide⟩ hl.1 (Nat.le_of_ble_eq_true rfl) dd_law_12 ⟨by decide, by decide⟩ hP hD hS (fun v H3 locs3 hP hD hS => ?_)
  refine lv_astore_n x1 x2 dd_law_15 rfl hl (by decide) rfl (fun la hl => ?_)
  have hl : lv_has la 4 [(2, .ref q2), (1, .ref q1), (0, .ref b)] := hl
  refine lv_iconst x1 x2 dd_law_16 (v := 0) rfl ?_
  refine lv_istore_n x1 x2 dd_law_17 rfl hl (by decide) rfl (fun la hl => ?_)
  have hl : lv_has la 4 [(3, .int 0), (2, .ref q2), (1, .ref q1), (0, .ref b)] := hl
  refine va_forget (fun a ha => hS.2.2 a ha) ?_
  have hP2 := st_P (l := l) (sz := s.heap.size) (b := b) (t := t) (h := q1) (g := q2) (u := u) (v := v) hP
  have hH := st_H (l := l) (D := D) (b := b) (t := t) (h := q1) (g := q2) (u := u) (v := v) hD
  have hC : lg_C (l, D, st_ad q1 q2 b t u v, s.heap.size, cI, cB, cII) p s m meth c b L xs := ⟨C0, hH, ⟨K.1.sub (tys' := [(cI, .int), (cB, .boolean)]) [0, 1] rfl, (K.1.2 2 _ rfl).1, K.2.1, hZ, hT⟩, rfl, rfl⟩
  have hLs : fb_L (l, D, st_ad q1 q2 b t u v, s.heap.size, cI, cB, cII) la 4 [.inr 98, .inr 0, .inr 5, .inl 0] := by
    refine ⟨hl.1, hl.2.1, fun i x hi => ?_, fun i k hi hk => ?_⟩
    · match i, hi with
      | 0, hi => cases hi
      | 1, hi => cases hi
      | 2, hi => cases hi
      | 3, hi => cases hi; exact lv_at hl 0 rfl
      | i + 4, hi =>
        have : i + 4 < 4 := (List.getElem?_eq_some_iff.mp hi).1
        omega
    · match i, hi with
      | 0, hi => cases hi; exact lv_at hl 3 rfl
      | 1, hi => cases hi; exact lv_at hl 2 rfl
      | 2, hi => cases hi; exact lv_at hl 1 rfl
      | 3, hi => cases hi
      | i + 4, hi =>
        have : i + 4 < 4 := (List.getElem?_eq_some_iff.mp hi).1
        omega
  exact lg_loop (e := e) (below := below) hC hL ⟨by decide, by decide⟩ (L + 5) 0 st_0 (by omega) (by omega) (by rw [Int.mul_zero]; exact st_inv) H3 la hP2 ⟨hS.1, hS.2.1, fun l h => absurd h List.not_mem_nil⟩ hLs
-- ===== YOUR PART ENDS =====
set_option maxHeartbeats 4000000 in
theorem lw_walk (l : Launch) (b : Addr) (xs : List Int32) : MetFree l x (headSpec (Jvm.Cond.code x code maxLocals ret :: tables_1) room_1) (lw_P b xs) (fun _ _ _ _ _ => True) lw_Q := by
  refine MetFree.of_bodyS (code := code) (maxLocals := maxLocals) (ret := ret) (by decide) ?_ ?_
  · intro args s m h hn
    obtain ⟨meth, c, h1, h2, h3, h4, h5, h6, -, -⟩ := Cond.code_spec hn (atoms_spec (ws := Jvm.Cond.code x code maxLocals ret :: tables_1) h _ List.mem_cons_self)
    exact ⟨meth, c, h1, h2, h3, h4, h5, h6⟩
  · intro p e s m args below meth c s₁ B hml0 hP _
    obtain ⟨rfl, hx, hbd, hgv⟩ := hP
    obtain ⟨scr, harrAt, hlist, hof, hsmall⟩ := hx
    obtain ⟨hcb, hkn, -, -⟩ := State.arrayAt?_spec harrAt
    have hown : s.vm.findClass R_law = some m.cls := findClass_of_methodNamed B.named
    have hts0 : ∀ c ∈ (Jvm.Cond.code x code maxLocals ret :: tables_1), c.before #[Value.ref b] s = true := atoms_spec (ws := Jvm.Cond.code x code maxLocals ret :: tables_1) B.pre
    have hts : ∀ w ∈ lw_tbl, w.before #[Value.ref b] s = true := k2_hts_sels lw_privs (fun w hw => hts0 w (List.mem_cons_of_mem _ hw)) lw_privs_ok
    have hml : c.maxLocals = 4 := B.maxLocals_eq (hts0 _ List.mem_cons_self)
    have X₀ : Stand p l e room_1 s m #[Value.ref b] below meth c s₁ [] 0 0 := Stand.of_body B
    have hh0 : s₁.heap = s.heap := by rw [B.state]; rfl
    have hsz : scr.slots.size = xs.length := by rw [← Array.length_toList, hlist, List.length_map]
    have hval : ∀ j : Nat, j < xs.length → scr.slots[j]? = some (.int (xs.getD j 0)) := fun j hj => by
      rw [← Array.getElem?_toList, hlist]
      simp [hj]
    have hbl : b < s.heap.size := (Array.getElem?_eq_some_iff.mp hcb).1
    have hX : va_X b xs.length (fun j => xs.getD j 0) s s.heap := ⟨scr, hcb, hof, hkn, hsz, hval⟩
    have K : W p l e room_1 s m #[Value.ref b] below meth c s₁.heap [] 0 0 (lw_Z below #[Value.ref b] s) (entryFrame m ([Value.ref b] : List Value).toArray 4) := by
      rw [hh0]
      exact whole_start l hbd ⟨B.exec, B.bytes, B.returns, hml, hown, hts, hX, hbl, B.notSynchronized, hgv⟩
    obtain ⟨t, a1, o, b1, b2, b3⟩ := K s₁ rfl X₀
    exact ⟨t, o, a1, b1, b2, b3⟩
theorem lw_pre_spec {args : Array Value} {s : State} (h : (Jvm.Cond.and given_1 narrow_1).before args s = true) (hr : rest_1_c.before args s = true) : ∃ (b : Addr) (xs : List Int32), lw_P b xs args s := by
  have hs := flat_of_before _ h
  have hq := flat_of_before _ hr
  have hc : (Cond.count 1).before args s = true := hs _ (by decide +kernel)
  have harr : (Cond.arrayOf (.arg 0) .int).before args s = true := hs _ (by decide +kernel)
  have hle : (Cond.le (.length (.arg 0)) (.int 2560)).before args s = true := hs _ (by decide +kernel)
  have hlen : (Cond.isInt (.length (.arg 0))).before args s = true := hq _ (by decide +kernel)
  have hall : (Cond.all (.arg 0) (.isInt (.elem (.arg 0) (.index 0)))).before args s = true := hq _ (by decide +kernel)
  obtain ⟨b, xs, hb, hx⟩ := State.ints_of_pre rfl harr hlen hall
  have hsm : xs.length < 2 ^ 31 := hx.choose_spec.2.2.2
  have hev : (Term.length (.arg 0)).eval args s none [] s = some (.int xs.length.toInt32) := hx.length_eval hb
  have hv := Cond.le_ints hev (show (Term.int 2560).eval args s none [] s = some (.int 2560) from rfl)
  have hd : xs.length.toInt32 ≤ 2560 := by
    simpa [Cond.before, Cond.holds, hv] using hle
  have hN : xs.length ≤ 2560 := (Int32.ofNat_le_ofNat hsm (by decide)).mp (show Int32.ofNat xs.length ≤ Int32.ofNat 2560 from hd)
  exact ⟨b, xs, Cond.one_arg hc (show args[0]? = some (.ref b) from hb), hx, hN, h⟩
theorem lw_comes (l : Launch) : Comes l x (Jvm.Cond.code x code maxLocals ret :: tables_1) room_1 (fun tb e args s => Calls_1 tb e args s ∧ rest_1 tb e args s ∧ Pre_1 tb e args s)
    (fun _ _ args s o t => lw_Q args s o t) := by
  intro p e ha hc hk s m args below hf hfit hheap happ hpre
  obtain ⟨b, xs, hP⟩ := lw_pre_spec hpre.2.2 hpre.2.1
  obtain ⟨k, o, h1, h2, h3, hQ⟩ := lw_walk l b xs p e ha hc hk s m args below hf ((Spec.applies_iff_loose hf).mp happ).1 hP trivial
  exact ⟨k, o, h1, h2, h3, hQ⟩
theorem lw_frame {s t : State} {o : Outcome} {args : Array Value} (h : Framed s o t [] 600000 7302250) :
    Framed s o t (fieldLocs frame_1_writes args s ++ arrayLocs frame_1_arrays args s ++ staticLocs frame_1_statics s) 600000 7302250 := h
theorem lw_limb (L : Cond) (hL : ∀ (args : Array Value) (s t : State), L.after args s (.returned (some (.int 1))) t = true) :
    ArmFor flags0 classFile x code maxLocals ret World_1 tables_1 room_1 Calls_1 rest_1 Pre_1
      (fun tb e a s o t => postC L tb e a s o t ∧ Framed s o t (fieldLocs frame_1_writes a s ++ arrayLocs frame_1_arrays a s ++ staticLocs frame_1_statics s) 600000 7302250) := by
  intro l _ _ _ p e ha hc hk s m args below hf hfit hheap happ hpre
  obtain ⟨k, o, h1, h2, h3, rfl, hF⟩ := lw_comes l p e ha hc hk s m args below hf hfit hheap happ hpre
  exact ⟨k, _, h1, h2, h3, hL args s _, lw_frame hF⟩
theorem i_vc : Claimed_1_1 ∧ Claimed_1_2 := ⟨lw_limb limb_1_1 (fun args s t => by simp [limb_1_1, Cond.after, Cond.holds, Cond.value]), lw_limb limb_1_2 (fun args s t => Cond.after_iff.mpr (by
  first | (rw [show limb_1_2 = Cond.eq .result (.int 1) from rfl, Cond.eq_ints (x := 1) (y := 1) rfl rfl]; simp; done) | (simp [limb_1_2, Cond.value, Term.eval]; done)))⟩
