section
-- ===== PART A: goes FIRST, ahead of the names: the tables' words, and 'selects' of the private methods out of them =====
/-- a private method of a class that the tables say can be made, by its rows of tables_1 -/
def lw_okq (q : MethodName × Nat) : Prop := (q.1.cls ≠ "java/lang/invoke/MethodHandle" ∧ q.1.cls ≠ "java/lang/invoke/VarHandle") ∧ Cond.instantiable q.1.cls q.2 ∈ tables_1 ∧ Cond.privateMethod q.1 ∈ tables_1 ∧ Cond.instanceMethod q.1 ∈ tables_1
theorem lw_p0 : lw_okq (⟨"FrameBackEnd", "accepted", "(I)I"⟩, 5) := ⟨⟨by decide +kernel, by decide +kernel⟩, List.mem_of_getElem? (i := 10) (by decide +kernel), List.mem_of_getElem? (i := 228) (by decide +kernel), List.mem_of_getElem? (i := 229) (by decide +kernel)⟩
theorem lw_p1 : lw_okq (⟨"FrameBackEnd", "dropCode", "()V"⟩, 5) := ⟨⟨by decide +kernel, by decide +kernel⟩, List.mem_of_getElem? (i := 10) (by decide +kernel), List.mem_of_getElem? (i := 232) (by decide +kernel), List.mem_of_getElem? (i := 233) (by decide +kernel)⟩
theorem lw_p2 : lw_okq (⟨"FrameBackEnd$Program", "suits", "(II)Z"⟩, 11) := ⟨⟨by decide +kernel, by decide +kernel⟩, List.mem_of_getElem? (i := 18) (by decide +kernel), List.mem_of_getElem? (i := 258) (by decide +kernel), List.mem_of_getElem? (i := 259) (by decide +kernel)⟩
theorem lw_p3 : lw_okq (⟨"FrameBackEnd", "faultOfProgram", "()I"⟩, 5) := ⟨⟨by decide +kernel, by decide +kernel⟩, List.mem_of_getElem? (i := 10) (by decide +kernel), List.mem_of_getElem? (i := 274) (by decide +kernel), List.mem_of_getElem? (i := 275) (by decide +kernel)⟩
theorem lw_p4 : lw_okq (⟨"FrameBackEnd$Frames", "closeCalls", "()V"⟩, 5) := ⟨⟨by decide +kernel, by decide +kernel⟩, List.mem_of_getElem? (i := 76) (by decide +kernel), List.mem_of_getElem? (i := 314) (by decide +kernel), List.mem_of_getElem? (i := 315) (by decide +kernel)⟩
theorem lw_p5 : lw_okq (⟨"FrameBackEnd$Frames", "pushCallees", "(I)V"⟩, 5) := ⟨⟨by decide +kernel, by decide +kernel⟩, List.mem_of_getElem? (i := 76) (by decide +kernel), List.mem_of_getElem? (i := 325) (by decide +kernel), List.mem_of_getElem? (i := 326) (by decide +kernel)⟩
theorem lw_p6 : lw_okq (⟨"FrameBackEnd$Frames", "endOf", "(I)I"⟩, 5) := ⟨⟨by decide +kernel, by decide +kernel⟩, List.mem_of_getElem? (i := 76) (by decide +kernel), List.mem_of_getElem? (i := 329) (by decide +kernel), List.mem_of_getElem? (i := 330) (by decide +kernel)⟩
theorem lw_p7 : lw_okq (⟨"FrameBackEnd$Assembler", "markTargets", "()V"⟩, 12) := ⟨⟨by decide +kernel, by decide +kernel⟩, List.mem_of_getElem? (i := 103) (by decide +kernel), List.mem_of_getElem? (i := 352) (by decide +kernel), List.mem_of_getElem? (i := 353) (by decide +kernel)⟩
theorem lw_p8 : lw_okq (⟨"FrameBackEnd$Assembler", "emitProgram", "()V"⟩, 12) := ⟨⟨by decide +kernel, by decide +kernel⟩, List.mem_of_getElem? (i := 103) (by decide +kernel), List.mem_of_getElem? (i := 361) (by decide +kernel), List.mem_of_getElem? (i := 362) (by decide +kernel)⟩
theorem lw_p9 : lw_okq (⟨"FrameBackEnd$Assembler", "emitInstruction", "(IIII)V"⟩, 12) := ⟨⟨by decide +kernel, by decide +kernel⟩, List.mem_of_getElem? (i := 103) (by decide +kernel), List.mem_of_getElem? (i := 365) (by decide +kernel), List.mem_of_getElem? (i := 366) (by decide +kernel)⟩
theorem lw_p10 : lw_okq (⟨"FrameBackEnd$Assembler", "emitSet", "(II)V"⟩, 12) := ⟨⟨by decide +kernel, by decide +kernel⟩, List.mem_of_getElem? (i := 103) (by decide +kernel), List.mem_of_getElem? (i := 369) (by decide +kernel), List.mem_of_getElem? (i := 370) (by decide +kernel)⟩
theorem lw_p11 : lw_okq (⟨"FrameBackEnd$Assembler", "emit", "(II)V"⟩, 12) := ⟨⟨by decide +kernel, by decide +kernel⟩, List.mem_of_getElem? (i := 103) (by decide +kernel), List.mem_of_getElem? (i := 374) (by decide +kernel), List.mem_of_getElem? (i := 375) (by decide +kernel)⟩
theorem lw_p12 : lw_okq (⟨"FrameBackEnd$Assembler", "put", "(I)V"⟩, 12) := ⟨⟨by decide +kernel, by decide +kernel⟩, List.mem_of_getElem? (i := 103) (by decide +kernel), List.mem_of_getElem? (i := 381) (by decide +kernel), List.mem_of_getElem? (i := 382) (by decide +kernel)⟩
theorem lw_p13 : lw_okq (⟨"FrameBackEnd$Assembler", "heldBehind", "(II)I"⟩, 12) := ⟨⟨by decide +kernel, by decide +kernel⟩, List.mem_of_getElem? (i := 103) (by decide +kernel), List.mem_of_getElem? (i := 385) (by decide +kernel), List.mem_of_getElem? (i := 386) (by decide +kernel)⟩
theorem lw_p14 : lw_okq (⟨"FrameBackEnd$Assembler", "part", "(II)I"⟩, 12) := ⟨⟨by decide +kernel, by decide +kernel⟩, List.mem_of_getElem? (i := 103) (by decide +kernel), List.mem_of_getElem? (i := 389) (by decide +kernel), List.mem_of_getElem? (i := 390) (by decide +kernel)⟩
theorem lw_p15 : lw_okq (⟨"FrameBackEnd$Assembler", "emitMove", "(II)V"⟩, 12) := ⟨⟨by decide +kernel, by decide +kernel⟩, List.mem_of_getElem? (i := 103) (by decide +kernel), List.mem_of_getElem? (i := 393) (by decide +kernel), List.mem_of_getElem? (i := 394) (by decide +kernel)⟩
def lw_privs_1 : List (MethodName × Nat) := [(⟨"FrameBackEnd", "accepted", "(I)I"⟩, 5), (⟨"FrameBackEnd", "dropCode", "()V"⟩, 5), (⟨"FrameBackEnd$Program", "suits", "(II)Z"⟩, 11), (⟨"FrameBackEnd", "faultOfProgram", "()I"⟩, 5), (⟨"FrameBackEnd$Frames", "closeCalls", "()V"⟩, 5), (⟨"FrameBackEnd$Frames", "pushCallees", "(I)V"⟩, 5), (⟨"FrameBackEnd$Frames", "endOf", "(I)I"⟩, 5), (⟨"FrameBackEnd$Assembler", "markTargets", "()V"⟩, 12), (⟨"FrameBackEnd$Assembler", "emitProgram", "()V"⟩, 12), (⟨"FrameBackEnd$Assembler", "emitInstruction", "(IIII)V"⟩, 12), (⟨"FrameBackEnd$Assembler", "emitSet", "(II)V"⟩, 12), (⟨"FrameBackEnd$Assembler", "emit", "(II)V"⟩, 12), (⟨"FrameBackEnd$Assembler", "put", "(I)V"⟩, 12), (⟨"FrameBackEnd$Assembler", "heldBehind", "(II)I"⟩, 12), (⟨"FrameBackEnd$Assembler", "part", "(II)I"⟩, 12), (⟨"FrameBackEnd$Assembler", "emitMove", "(II)V"⟩, 12)]
theorem lw_r1 : ∀ q ∈ lw_privs_1, lw_okq q := List.forall_mem_cons.mpr ⟨lw_p0, List.forall_mem_cons.mpr ⟨lw_p1, List.forall_mem_cons.mpr ⟨lw_p2, List.forall_mem_cons.mpr ⟨lw_p3, List.forall_mem_cons.mpr ⟨lw_p4, List.forall_mem_cons.mpr ⟨lw_p5, List.forall_mem_cons.mpr ⟨lw_p6, List.forall_mem_cons.mpr ⟨lw_p7, List.forall_mem_cons.mpr ⟨lw_p8, List.forall_mem_cons.mpr ⟨lw_p9, List.forall_mem_cons.mpr ⟨lw_p10, List.forall_mem_cons.mpr ⟨lw_p11, List.forall_mem_cons.mpr ⟨lw_p12, List.forall_mem_cons.mpr ⟨lw_p13, List.forall_mem_cons.mpr ⟨lw_p14, List.forall_mem_cons.mpr ⟨lw_p15, fun _ h => absurd h List.not_mem_nil⟩⟩⟩⟩⟩⟩⟩⟩⟩⟩⟩⟩⟩⟩⟩⟩
theorem lw_p16 : lw_okq (⟨"FrameBackEnd$Assembler", "emitAlone", "(I)V"⟩, 12) := ⟨⟨by decide +kernel, by decide +kernel⟩, List.mem_of_getElem? (i := 103) (by decide +kernel), List.mem_of_getElem? (i := 397) (by decide +kernel), List.mem_of_getElem? (i := 398) (by decide +kernel)⟩
theorem lw_p17 : lw_okq (⟨"FrameBackEnd$Assembler", "emitCombine", "(IIII)V"⟩, 12) := ⟨⟨by decide +kernel, by decide +kernel⟩, List.mem_of_getElem? (i := 103) (by decide +kernel), List.mem_of_getElem? (i := 401) (by decide +kernel), List.mem_of_getElem? (i := 402) (by decide +kernel)⟩
theorem lw_p18 : lw_okq (⟨"FrameBackEnd$Assembler", "emitDouble", "(I)V"⟩, 12) := ⟨⟨by decide +kernel, by decide +kernel⟩, List.mem_of_getElem? (i := 103) (by decide +kernel), List.mem_of_getElem? (i := 405) (by decide +kernel), List.mem_of_getElem? (i := 406) (by decide +kernel)⟩
theorem lw_p19 : lw_okq (⟨"FrameBackEnd$Assembler", "isWide", "(I)Z"⟩, 12) := ⟨⟨by decide +kernel, by decide +kernel⟩, List.mem_of_getElem? (i := 103) (by decide +kernel), List.mem_of_getElem? (i := 409) (by decide +kernel), List.mem_of_getElem? (i := 410) (by decide +kernel)⟩
theorem lw_p20 : lw_okq (⟨"FrameBackEnd$Assembler", "emitIndex", "(II)V"⟩, 12) := ⟨⟨by decide +kernel, by decide +kernel⟩, List.mem_of_getElem? (i := 103) (by decide +kernel), List.mem_of_getElem? (i := 413) (by decide +kernel), List.mem_of_getElem? (i := 414) (by decide +kernel)⟩
theorem lw_p21 : lw_okq (⟨"FrameBackEnd$Assembler", "emitLoad", "(II)V"⟩, 12) := ⟨⟨by decide +kernel, by decide +kernel⟩, List.mem_of_getElem? (i := 103) (by decide +kernel), List.mem_of_getElem? (i := 417) (by decide +kernel), List.mem_of_getElem? (i := 418) (by decide +kernel)⟩
theorem lw_p22 : lw_okq (⟨"FrameBackEnd$Assembler", "emitStore", "(II)V"⟩, 12) := ⟨⟨by decide +kernel, by decide +kernel⟩, List.mem_of_getElem? (i := 103) (by decide +kernel), List.mem_of_getElem? (i := 421) (by decide +kernel), List.mem_of_getElem? (i := 422) (by decide +kernel)⟩
theorem lw_p23 : lw_okq (⟨"FrameBackEnd$Assembler", "emitJump", "(II)V"⟩, 12) := ⟨⟨by decide +kernel, by decide +kernel⟩, List.mem_of_getElem? (i := 103) (by decide +kernel), List.mem_of_getElem? (i := 425) (by decide +kernel), List.mem_of_getElem? (i := 426) (by decide +kernel)⟩
theorem lw_p24 : lw_okq (⟨"FrameBackEnd$Assembler", "emitZero", "(I)V"⟩, 12) := ⟨⟨by decide +kernel, by decide +kernel⟩, List.mem_of_getElem? (i := 103) (by decide +kernel), List.mem_of_getElem? (i := 429) (by decide +kernel), List.mem_of_getElem? (i := 430) (by decide +kernel)⟩
theorem lw_p25 : lw_okq (⟨"FrameBackEnd$Assembler", "emitBranch", "(II)V"⟩, 12) := ⟨⟨by decide +kernel, by decide +kernel⟩, List.mem_of_getElem? (i := 103) (by decide +kernel), List.mem_of_getElem? (i := 433) (by decide +kernel), List.mem_of_getElem? (i := 434) (by decide +kernel)⟩
theorem lw_p26 : lw_okq (⟨"FrameBackEnd$Assembler", "emitBelow", "(II)V"⟩, 12) := ⟨⟨by decide +kernel, by decide +kernel⟩, List.mem_of_getElem? (i := 103) (by decide +kernel), List.mem_of_getElem? (i := 440) (by decide +kernel), List.mem_of_getElem? (i := 441) (by decide +kernel)⟩
theorem lw_p27 : lw_okq (⟨"FrameBackEnd$Assembler", "emitCall", "(III)V"⟩, 12) := ⟨⟨by decide +kernel, by decide +kernel⟩, List.mem_of_getElem? (i := 103) (by decide +kernel), List.mem_of_getElem? (i := 444) (by decide +kernel), List.mem_of_getElem? (i := 445) (by decide +kernel)⟩
theorem lw_p28 : lw_okq (⟨"FrameBackEnd$Assembler", "emitReturn", "(I)V"⟩, 12) := ⟨⟨by decide +kernel, by decide +kernel⟩, List.mem_of_getElem? (i := 103) (by decide +kernel), List.mem_of_getElem? (i := 449) (by decide +kernel), List.mem_of_getElem? (i := 450) (by decide +kernel)⟩
theorem lw_p29 : lw_okq (⟨"FrameBackEnd$Assembler", "emitOut", "(I)V"⟩, 12) := ⟨⟨by decide +kernel, by decide +kernel⟩, List.mem_of_getElem? (i := 103) (by decide +kernel), List.mem_of_getElem? (i := 453) (by decide +kernel), List.mem_of_getElem? (i := 454) (by decide +kernel)⟩
theorem lw_p30 : lw_okq (⟨"FrameBackEnd$Assembler", "lengthenBranches", "()Z"⟩, 12) := ⟨⟨by decide +kernel, by decide +kernel⟩, List.mem_of_getElem? (i := 103) (by decide +kernel), List.mem_of_getElem? (i := 457) (by decide +kernel), List.mem_of_getElem? (i := 458) (by decide +kernel)⟩
theorem lw_p31 : lw_okq (⟨"FrameBackEnd$Assembler", "reachesGoal", "(I)Z"⟩, 12) := ⟨⟨by decide +kernel, by decide +kernel⟩, List.mem_of_getElem? (i := 103) (by decide +kernel), List.mem_of_getElem? (i := 461) (by decide +kernel), List.mem_of_getElem? (i := 462) (by decide +kernel)⟩
def lw_privs_2 : List (MethodName × Nat) := [(⟨"FrameBackEnd$Assembler", "emitAlone", "(I)V"⟩, 12), (⟨"FrameBackEnd$Assembler", "emitCombine", "(IIII)V"⟩, 12), (⟨"FrameBackEnd$Assembler", "emitDouble", "(I)V"⟩, 12), (⟨"FrameBackEnd$Assembler", "isWide", "(I)Z"⟩, 12), (⟨"FrameBackEnd$Assembler", "emitIndex", "(II)V"⟩, 12), (⟨"FrameBackEnd$Assembler", "emitLoad", "(II)V"⟩, 12), (⟨"FrameBackEnd$Assembler", "emitStore", "(II)V"⟩, 12), (⟨"FrameBackEnd$Assembler", "emitJump", "(II)V"⟩, 12), (⟨"FrameBackEnd$Assembler", "emitZero", "(I)V"⟩, 12), (⟨"FrameBackEnd$Assembler", "emitBranch", "(II)V"⟩, 12), (⟨"FrameBackEnd$Assembler", "emitBelow", "(II)V"⟩, 12), (⟨"FrameBackEnd$Assembler", "emitCall", "(III)V"⟩, 12), (⟨"FrameBackEnd$Assembler", "emitReturn", "(I)V"⟩, 12), (⟨"FrameBackEnd$Assembler", "emitOut", "(I)V"⟩, 12), (⟨"FrameBackEnd$Assembler", "lengthenBranches", "()Z"⟩, 12), (⟨"FrameBackEnd$Assembler", "reachesGoal", "(I)Z"⟩, 12)]
theorem lw_r2 : ∀ q ∈ lw_privs_2, lw_okq q := List.forall_mem_cons.mpr ⟨lw_p16, List.forall_mem_cons.mpr ⟨lw_p17, List.forall_mem_cons.mpr ⟨lw_p18, List.forall_mem_cons.mpr ⟨lw_p19, List.forall_mem_cons.mpr ⟨lw_p20, List.forall_mem_cons.mpr ⟨lw_p21, List.forall_mem_cons.mpr ⟨lw_p22, List.forall_mem_cons.mpr ⟨lw_p23, List.forall_mem_cons.mpr ⟨lw_p24, List.forall_mem_cons.mpr ⟨lw_p25, List.forall_mem_cons.mpr ⟨lw_p26, List.forall_mem_cons.mpr ⟨lw_p27, List.forall_mem_cons.mpr ⟨lw_p28, List.forall_mem_cons.mpr ⟨lw_p29, List.forall_mem_cons.mpr ⟨lw_p30, List.forall_mem_cons.mpr ⟨lw_p31, fun _ h => absurd h List.not_mem_nil⟩⟩⟩⟩⟩⟩⟩⟩⟩⟩⟩⟩⟩⟩⟩⟩
theorem lw_p32 : lw_okq (⟨"FrameBackEnd$Assembler", "markLabels", "()V"⟩, 12) := ⟨⟨by decide +kernel, by decide +kernel⟩, List.mem_of_getElem? (i := 103) (by decide +kernel), List.mem_of_getElem? (i := 465) (by decide +kernel), List.mem_of_getElem? (i := 466) (by decide +kernel)⟩
theorem lw_p33 : lw_okq (⟨"FrameBackEnd$Processor", "performOne", "()V"⟩, 13) := ⟨⟨by decide +kernel, by decide +kernel⟩, List.mem_of_getElem? (i := 152) (by decide +kernel), List.mem_of_getElem? (i := 509) (by decide +kernel), List.mem_of_getElem? (i := 510) (by decide +kernel)⟩
theorem lw_p34 : lw_okq (⟨"FrameBackEnd$Processor", "step", "()V"⟩, 13) := ⟨⟨by decide +kernel, by decide +kernel⟩, List.mem_of_getElem? (i := 152) (by decide +kernel), List.mem_of_getElem? (i := 513) (by decide +kernel), List.mem_of_getElem? (i := 514) (by decide +kernel)⟩
theorem lw_p35 : lw_okq (⟨"FrameBackEnd$Processor", "fetch", "()I"⟩, 13) := ⟨⟨by decide +kernel, by decide +kernel⟩, List.mem_of_getElem? (i := 152) (by decide +kernel), List.mem_of_getElem? (i := 517) (by decide +kernel), List.mem_of_getElem? (i := 518) (by decide +kernel)⟩
theorem lw_p36 : lw_okq (⟨"FrameBackEnd$Processor", "doWithData", "(II)V"⟩, 13) := ⟨⟨by decide +kernel, by decide +kernel⟩, List.mem_of_getElem? (i := 152) (by decide +kernel), List.mem_of_getElem? (i := 521) (by decide +kernel), List.mem_of_getElem? (i := 522) (by decide +kernel)⟩
theorem lw_p37 : lw_okq (⟨"FrameBackEnd$Processor", "fetchOperand", "(I)I"⟩, 13) := ⟨⟨by decide +kernel, by decide +kernel⟩, List.mem_of_getElem? (i := 152) (by decide +kernel), List.mem_of_getElem? (i := 525) (by decide +kernel), List.mem_of_getElem? (i := 526) (by decide +kernel)⟩
theorem lw_p38 : lw_okq (⟨"FrameBackEnd$Processor", "read", "(I)I"⟩, 13) := ⟨⟨by decide +kernel, by decide +kernel⟩, List.mem_of_getElem? (i := 152) (by decide +kernel), List.mem_of_getElem? (i := 529) (by decide +kernel), List.mem_of_getElem? (i := 530) (by decide +kernel)⟩
theorem lw_p39 : lw_okq (⟨"FrameBackEnd$Processor", "setA", "(I)V"⟩, 13) := ⟨⟨by decide +kernel, by decide +kernel⟩, List.mem_of_getElem? (i := 152) (by decide +kernel), List.mem_of_getElem? (i := 533) (by decide +kernel), List.mem_of_getElem? (i := 534) (by decide +kernel)⟩
theorem lw_p40 : lw_okq (⟨"FrameBackEnd$Processor", "write", "(II)V"⟩, 13) := ⟨⟨by decide +kernel, by decide +kernel⟩, List.mem_of_getElem? (i := 152) (by decide +kernel), List.mem_of_getElem? (i := 537) (by decide +kernel), List.mem_of_getElem? (i := 538) (by decide +kernel)⟩
theorem lw_p41 : lw_okq (⟨"FrameBackEnd$Processor", "add", "(I)V"⟩, 13) := ⟨⟨by decide +kernel, by decide +kernel⟩, List.mem_of_getElem? (i := 152) (by decide +kernel), List.mem_of_getElem? (i := 541) (by decide +kernel), List.mem_of_getElem? (i := 542) (by decide +kernel)⟩
theorem lw_p42 : lw_okq (⟨"FrameBackEnd$Processor", "shift", "(II)V"⟩, 13) := ⟨⟨by decide +kernel, by decide +kernel⟩, List.mem_of_getElem? (i := 152) (by decide +kernel), List.mem_of_getElem? (i := 545) (by decide +kernel), List.mem_of_getElem? (i := 546) (by decide +kernel)⟩
theorem lw_p43 : lw_okq (⟨"FrameBackEnd$Processor", "compare", "(II)V"⟩, 13) := ⟨⟨by decide +kernel, by decide +kernel⟩, List.mem_of_getElem? (i := 152) (by decide +kernel), List.mem_of_getElem? (i := 549) (by decide +kernel), List.mem_of_getElem? (i := 550) (by decide +kernel)⟩
theorem lw_p44 : lw_okq (⟨"FrameBackEnd$Processor", "doBranch", "(I)V"⟩, 13) := ⟨⟨by decide +kernel, by decide +kernel⟩, List.mem_of_getElem? (i := 152) (by decide +kernel), List.mem_of_getElem? (i := 553) (by decide +kernel), List.mem_of_getElem? (i := 554) (by decide +kernel)⟩
theorem lw_p45 : lw_okq (⟨"FrameBackEnd$Processor", "branches", "(I)Z"⟩, 13) := ⟨⟨by decide +kernel, by decide +kernel⟩, List.mem_of_getElem? (i := 152) (by decide +kernel), List.mem_of_getElem? (i := 557) (by decide +kernel), List.mem_of_getElem? (i := 558) (by decide +kernel)⟩
theorem lw_p46 : lw_okq (⟨"FrameBackEnd$Processor", "doJump", "(I)V"⟩, 13) := ⟨⟨by decide +kernel, by decide +kernel⟩, List.mem_of_getElem? (i := 152) (by decide +kernel), List.mem_of_getElem? (i := 561) (by decide +kernel), List.mem_of_getElem? (i := 562) (by decide +kernel)⟩
theorem lw_p47 : lw_okq (⟨"FrameBackEnd$Processor", "doAlone", "(I)V"⟩, 13) := ⟨⟨by decide +kernel, by decide +kernel⟩, List.mem_of_getElem? (i := 152) (by decide +kernel), List.mem_of_getElem? (i := 565) (by decide +kernel), List.mem_of_getElem? (i := 566) (by decide +kernel)⟩
def lw_privs_3 : List (MethodName × Nat) := [(⟨"FrameBackEnd$Assembler", "markLabels", "()V"⟩, 12), (⟨"FrameBackEnd$Processor", "performOne", "()V"⟩, 13), (⟨"FrameBackEnd$Processor", "step", "()V"⟩, 13), (⟨"FrameBackEnd$Processor", "fetch", "()I"⟩, 13), (⟨"FrameBackEnd$Processor", "doWithData", "(II)V"⟩, 13), (⟨"FrameBackEnd$Processor", "fetchOperand", "(I)I"⟩, 13), (⟨"FrameBackEnd$Processor", "read", "(I)I"⟩, 13), (⟨"FrameBackEnd$Processor", "setA", "(I)V"⟩, 13), (⟨"FrameBackEnd$Processor", "write", "(II)V"⟩, 13), (⟨"FrameBackEnd$Processor", "add", "(I)V"⟩, 13), (⟨"FrameBackEnd$Processor", "shift", "(II)V"⟩, 13), (⟨"FrameBackEnd$Processor", "compare", "(II)V"⟩, 13), (⟨"FrameBackEnd$Processor", "doBranch", "(I)V"⟩, 13), (⟨"FrameBackEnd$Processor", "branches", "(I)Z"⟩, 13), (⟨"FrameBackEnd$Processor", "doJump", "(I)V"⟩, 13), (⟨"FrameBackEnd$Processor", "doAlone", "(I)V"⟩, 13)]
theorem lw_r3 : ∀ q ∈ lw_privs_3, lw_okq q := List.forall_mem_cons.mpr ⟨lw_p32, List.forall_mem_cons.mpr ⟨lw_p33, List.forall_mem_cons.mpr ⟨lw_p34, List.forall_mem_cons.mpr ⟨lw_p35, List.forall_mem_cons.mpr ⟨lw_p36, List.forall_mem_cons.mpr ⟨lw_p37, List.forall_mem_cons.mpr ⟨lw_p38, List.forall_mem_cons.mpr ⟨lw_p39, List.forall_mem_cons.mpr ⟨lw_p40, List.forall_mem_cons.mpr ⟨lw_p41, List.forall_mem_cons.mpr ⟨lw_p42, List.forall_mem_cons.mpr ⟨lw_p43, List.forall_mem_cons.mpr ⟨lw_p44, List.forall_mem_cons.mpr ⟨lw_p45, List.forall_mem_cons.mpr ⟨lw_p46, List.forall_mem_cons.mpr ⟨lw_p47, fun _ h => absurd h List.not_mem_nil⟩⟩⟩⟩⟩⟩⟩⟩⟩⟩⟩⟩⟩⟩⟩⟩
theorem lw_p48 : lw_okq (⟨"FrameBackEnd$Processor", "doReturn", "()V"⟩, 13) := ⟨⟨by decide +kernel, by decide +kernel⟩, List.mem_of_getElem? (i := 152) (by decide +kernel), List.mem_of_getElem? (i := 569) (by decide +kernel), List.mem_of_getElem? (i := 570) (by decide +kernel)⟩
theorem lw_p49 : lw_okq (⟨"FrameBackEnd$Processor", "putOut", "()V"⟩, 13) := ⟨⟨by decide +kernel, by decide +kernel⟩, List.mem_of_getElem? (i := 152) (by decide +kernel), List.mem_of_getElem? (i := 573) (by decide +kernel), List.mem_of_getElem? (i := 574) (by decide +kernel)⟩
theorem lw_p50 : lw_okq (⟨"FrameBackEnd$Processor", "labelHere", "()I"⟩, 13) := ⟨⟨by decide +kernel, by decide +kernel⟩, List.mem_of_getElem? (i := 152) (by decide +kernel), List.mem_of_getElem? (i := 577) (by decide +kernel), List.mem_of_getElem? (i := 578) (by decide +kernel)⟩
theorem lw_p51 : lw_okq (⟨"FrameBackEndModel", "change", "()V"⟩, 30) := ⟨⟨by decide +kernel, by decide +kernel⟩, List.mem_of_getElem? (i := 610) (by decide +kernel), List.mem_of_getElem? (i := 711) (by decide +kernel), List.mem_of_getElem? (i := 712) (by decide +kernel)⟩
theorem lw_p52 : lw_okq (⟨"FrameBackEndModel", "fine", "(IIII)Z"⟩, 30) := ⟨⟨by decide +kernel, by decide +kernel⟩, List.mem_of_getElem? (i := 610) (by decide +kernel), List.mem_of_getElem? (i := 723) (by decide +kernel), List.mem_of_getElem? (i := 724) (by decide +kernel)⟩
theorem lw_p53 : lw_okq (⟨"FrameBackEndModel", "scalar", "(I)Z"⟩, 30) := ⟨⟨by decide +kernel, by decide +kernel⟩, List.mem_of_getElem? (i := 610) (by decide +kernel), List.mem_of_getElem? (i := 727) (by decide +kernel), List.mem_of_getElem? (i := 728) (by decide +kernel)⟩
theorem lw_p54 : lw_okq (⟨"FrameBackEndModel", "is", "(III)Z"⟩, 30) := ⟨⟨by decide +kernel, by decide +kernel⟩, List.mem_of_getElem? (i := 610) (by decide +kernel), List.mem_of_getElem? (i := 731) (by decide +kernel), List.mem_of_getElem? (i := 732) (by decide +kernel)⟩
theorem lw_p55 : lw_okq (⟨"FrameBackEndModel", "ended", "()Z"⟩, 30) := ⟨⟨by decide +kernel, by decide +kernel⟩, List.mem_of_getElem? (i := 610) (by decide +kernel), List.mem_of_getElem? (i := 740) (by decide +kernel), List.mem_of_getElem? (i := 741) (by decide +kernel)⟩
theorem lw_p56 : lw_okq (⟨"FrameBackEndModel", "aimed", "()Z"⟩, 30) := ⟨⟨by decide +kernel, by decide +kernel⟩, List.mem_of_getElem? (i := 610) (by decide +kernel), List.mem_of_getElem? (i := 744) (by decide +kernel), List.mem_of_getElem? (i := 745) (by decide +kernel)⟩
theorem lw_p57 : lw_okq (⟨"FrameBackEndModel", "goal", "(I)I"⟩, 30) := ⟨⟨by decide +kernel, by decide +kernel⟩, List.mem_of_getElem? (i := 610) (by decide +kernel), List.mem_of_getElem? (i := 751) (by decide +kernel), List.mem_of_getElem? (i := 752) (by decide +kernel)⟩
theorem lw_p58 : lw_okq (⟨"FrameBackEndModel", "called", "()Z"⟩, 30) := ⟨⟨by decide +kernel, by decide +kernel⟩, List.mem_of_getElem? (i := 610) (by decide +kernel), List.mem_of_getElem? (i := 755) (by decide +kernel), List.mem_of_getElem? (i := 756) (by decide +kernel)⟩
theorem lw_p59 : lw_okq (⟨"FrameBackEndModel", "rings", "()Z"⟩, 30) := ⟨⟨by decide +kernel, by decide +kernel⟩, List.mem_of_getElem? (i := 610) (by decide +kernel), List.mem_of_getElem? (i := 759) (by decide +kernel), List.mem_of_getElem? (i := 760) (by decide +kernel)⟩
theorem lw_p60 : lw_okq (⟨"FrameBackEndModel", "framed", "()Z"⟩, 30) := ⟨⟨by decide +kernel, by decide +kernel⟩, List.mem_of_getElem? (i := 610) (by decide +kernel), List.mem_of_getElem? (i := 763) (by decide +kernel), List.mem_of_getElem? (i := 764) (by decide +kernel)⟩
theorem lw_p61 : lw_okq (⟨"FrameBackEndModel", "end", "(I)I"⟩, 30) := ⟨⟨by decide +kernel, by decide +kernel⟩, List.mem_of_getElem? (i := 610) (by decide +kernel), List.mem_of_getElem? (i := 767) (by decide +kernel), List.mem_of_getElem? (i := 768) (by decide +kernel)⟩
theorem lw_p62 : lw_okq (⟨"FrameBackEndModel", "layOut", "()V"⟩, 30) := ⟨⟨by decide +kernel, by decide +kernel⟩, List.mem_of_getElem? (i := 610) (by decide +kernel), List.mem_of_getElem? (i := 771) (by decide +kernel), List.mem_of_getElem? (i := 772) (by decide +kernel)⟩
theorem lw_p63 : lw_okq (⟨"FrameBackEndModel", "arithmetic", "(II)V"⟩, 30) := ⟨⟨by decide +kernel, by decide +kernel⟩, List.mem_of_getElem? (i := 610) (by decide +kernel), List.mem_of_getElem? (i := 775) (by decide +kernel), List.mem_of_getElem? (i := 776) (by decide +kernel)⟩
def lw_privs_4 : List (MethodName × Nat) := [(⟨"FrameBackEnd$Processor", "doReturn", "()V"⟩, 13), (⟨"FrameBackEnd$Processor", "putOut", "()V"⟩, 13), (⟨"FrameBackEnd$Processor", "labelHere", "()I"⟩, 13), (⟨"FrameBackEndModel", "change", "()V"⟩, 30), (⟨"FrameBackEndModel", "fine", "(IIII)Z"⟩, 30), (⟨"FrameBackEndModel", "scalar", "(I)Z"⟩, 30), (⟨"FrameBackEndModel", "is", "(III)Z"⟩, 30), (⟨"FrameBackEndModel", "ended", "()Z"⟩, 30), (⟨"FrameBackEndModel", "aimed", "()Z"⟩, 30), (⟨"FrameBackEndModel", "goal", "(I)I"⟩, 30), (⟨"FrameBackEndModel", "called", "()Z"⟩, 30), (⟨"FrameBackEndModel", "rings", "()Z"⟩, 30), (⟨"FrameBackEndModel", "framed", "()Z"⟩, 30), (⟨"FrameBackEndModel", "end", "(I)I"⟩, 30), (⟨"FrameBackEndModel", "layOut", "()V"⟩, 30), (⟨"FrameBackEndModel", "arithmetic", "(II)V"⟩, 30)]
theorem lw_r4 : ∀ q ∈ lw_privs_4, lw_okq q := List.forall_mem_cons.mpr ⟨lw_p48, List.forall_mem_cons.mpr ⟨lw_p49, List.forall_mem_cons.mpr ⟨lw_p50, List.forall_mem_cons.mpr ⟨lw_p51, List.forall_mem_cons.mpr ⟨lw_p52, List.forall_mem_cons.mpr ⟨lw_p53, List.forall_mem_cons.mpr ⟨lw_p54, List.forall_mem_cons.mpr ⟨lw_p55, List.forall_mem_cons.mpr ⟨lw_p56, List.forall_mem_cons.mpr ⟨lw_p57, List.forall_mem_cons.mpr ⟨lw_p58, List.forall_mem_cons.mpr ⟨lw_p59, List.forall_mem_cons.mpr ⟨lw_p60, List.forall_mem_cons.mpr ⟨lw_p61, List.forall_mem_cons.mpr ⟨lw_p62, List.forall_mem_cons.mpr ⟨lw_p63, fun _ h => absurd h List.not_mem_nil⟩⟩⟩⟩⟩⟩⟩⟩⟩⟩⟩⟩⟩⟩⟩⟩
theorem lw_p64 : lw_okq (⟨"FrameBackEndModel", "plain", "(I)V"⟩, 30) := ⟨⟨by decide +kernel, by decide +kernel⟩, List.mem_of_getElem? (i := 610) (by decide +kernel), List.mem_of_getElem? (i := 779) (by decide +kernel), List.mem_of_getElem? (i := 780) (by decide +kernel)⟩
theorem lw_p65 : lw_okq (⟨"FrameBackEndModel", "put", "(I)V"⟩, 30) := ⟨⟨by decide +kernel, by decide +kernel⟩, List.mem_of_getElem? (i := 610) (by decide +kernel), List.mem_of_getElem? (i := 783) (by decide +kernel), List.mem_of_getElem? (i := 784) (by decide +kernel)⟩
theorem lw_p66 : lw_okq (⟨"FrameBackEndModel", "part", "(III)I"⟩, 30) := ⟨⟨by decide +kernel, by decide +kernel⟩, List.mem_of_getElem? (i := 610) (by decide +kernel), List.mem_of_getElem? (i := 787) (by decide +kernel), List.mem_of_getElem? (i := 788) (by decide +kernel)⟩
theorem lw_p67 : lw_okq (⟨"FrameBackEndModel", "place", "(II)I"⟩, 30) := ⟨⟨by decide +kernel, by decide +kernel⟩, List.mem_of_getElem? (i := 610) (by decide +kernel), List.mem_of_getElem? (i := 791) (by decide +kernel), List.mem_of_getElem? (i := 792) (by decide +kernel)⟩
theorem lw_p68 : lw_okq (⟨"FrameBackEndModel", "load", "(I)V"⟩, 30) := ⟨⟨by decide +kernel, by decide +kernel⟩, List.mem_of_getElem? (i := 610) (by decide +kernel), List.mem_of_getElem? (i := 795) (by decide +kernel), List.mem_of_getElem? (i := 796) (by decide +kernel)⟩
theorem lw_p69 : lw_okq (⟨"FrameBackEndModel", "with", "(II)V"⟩, 30) := ⟨⟨by decide +kernel, by decide +kernel⟩, List.mem_of_getElem? (i := 610) (by decide +kernel), List.mem_of_getElem? (i := 799) (by decide +kernel), List.mem_of_getElem? (i := 800) (by decide +kernel)⟩
theorem lw_p70 : lw_okq (⟨"FrameBackEndModel", "arrays", "(II)V"⟩, 30) := ⟨⟨by decide +kernel, by decide +kernel⟩, List.mem_of_getElem? (i := 610) (by decide +kernel), List.mem_of_getElem? (i := 803) (by decide +kernel), List.mem_of_getElem? (i := 804) (by decide +kernel)⟩
theorem lw_p71 : lw_okq (⟨"FrameBackEndModel", "guard", "(II)V"⟩, 30) := ⟨⟨by decide +kernel, by decide +kernel⟩, List.mem_of_getElem? (i := 610) (by decide +kernel), List.mem_of_getElem? (i := 807) (by decide +kernel), List.mem_of_getElem? (i := 808) (by decide +kernel)⟩
theorem lw_p72 : lw_okq (⟨"FrameBackEndModel", "indexed", "(II)V"⟩, 30) := ⟨⟨by decide +kernel, by decide +kernel⟩, List.mem_of_getElem? (i := 610) (by decide +kernel), List.mem_of_getElem? (i := 811) (by decide +kernel), List.mem_of_getElem? (i := 812) (by decide +kernel)⟩
theorem lw_p73 : lw_okq (⟨"FrameBackEndModel", "move", "(II)V"⟩, 30) := ⟨⟨by decide +kernel, by decide +kernel⟩, List.mem_of_getElem? (i := 610) (by decide +kernel), List.mem_of_getElem? (i := 815) (by decide +kernel), List.mem_of_getElem? (i := 816) (by decide +kernel)⟩
theorem lw_p74 : lw_okq (⟨"FrameBackEndModel", "to", "(II)V"⟩, 30) := ⟨⟨by decide +kernel, by decide +kernel⟩, List.mem_of_getElem? (i := 610) (by decide +kernel), List.mem_of_getElem? (i := 819) (by decide +kernel), List.mem_of_getElem? (i := 820) (by decide +kernel)⟩
theorem lw_p75 : lw_okq (⟨"FrameBackEndModel", "tests", "(II)V"⟩, 30) := ⟨⟨by decide +kernel, by decide +kernel⟩, List.mem_of_getElem? (i := 610) (by decide +kernel), List.mem_of_getElem? (i := 823) (by decide +kernel), List.mem_of_getElem? (i := 824) (by decide +kernel)⟩
theorem lw_p76 : lw_okq (⟨"FrameBackEndModel", "branch", "(II)V"⟩, 30) := ⟨⟨by decide +kernel, by decide +kernel⟩, List.mem_of_getElem? (i := 610) (by decide +kernel), List.mem_of_getElem? (i := 827) (by decide +kernel), List.mem_of_getElem? (i := 828) (by decide +kernel)⟩
theorem lw_p77 : lw_okq (⟨"FrameBackEndModel", "call", "(II)V"⟩, 30) := ⟨⟨by decide +kernel, by decide +kernel⟩, List.mem_of_getElem? (i := 610) (by decide +kernel), List.mem_of_getElem? (i := 831) (by decide +kernel), List.mem_of_getElem? (i := 832) (by decide +kernel)⟩
theorem lw_p78 : lw_okq (⟨"FrameBackEndModel", "others", "(II)V"⟩, 30) := ⟨⟨by decide +kernel, by decide +kernel⟩, List.mem_of_getElem? (i := 610) (by decide +kernel), List.mem_of_getElem? (i := 835) (by decide +kernel), List.mem_of_getElem? (i := 836) (by decide +kernel)⟩
theorem lw_p79 : lw_okq (⟨"FrameBackEndModel", "stretched", "()Z"⟩, 30) := ⟨⟨by decide +kernel, by decide +kernel⟩, List.mem_of_getElem? (i := 610) (by decide +kernel), List.mem_of_getElem? (i := 839) (by decide +kernel), List.mem_of_getElem? (i := 840) (by decide +kernel)⟩
def lw_privs_5 : List (MethodName × Nat) := [(⟨"FrameBackEndModel", "plain", "(I)V"⟩, 30), (⟨"FrameBackEndModel", "put", "(I)V"⟩, 30), (⟨"FrameBackEndModel", "part", "(III)I"⟩, 30), (⟨"FrameBackEndModel", "place", "(II)I"⟩, 30), (⟨"FrameBackEndModel", "load", "(I)V"⟩, 30), (⟨"FrameBackEndModel", "with", "(II)V"⟩, 30), (⟨"FrameBackEndModel", "arrays", "(II)V"⟩, 30), (⟨"FrameBackEndModel", "guard", "(II)V"⟩, 30), (⟨"FrameBackEndModel", "indexed", "(II)V"⟩, 30), (⟨"FrameBackEndModel", "move", "(II)V"⟩, 30), (⟨"FrameBackEndModel", "to", "(II)V"⟩, 30), (⟨"FrameBackEndModel", "tests", "(II)V"⟩, 30), (⟨"FrameBackEndModel", "branch", "(II)V"⟩, 30), (⟨"FrameBackEndModel", "call", "(II)V"⟩, 30), (⟨"FrameBackEndModel", "others", "(II)V"⟩, 30), (⟨"FrameBackEndModel", "stretched", "()Z"⟩, 30)]
theorem lw_r5 : ∀ q ∈ lw_privs_5, lw_okq q := List.forall_mem_cons.mpr ⟨lw_p64, List.forall_mem_cons.mpr ⟨lw_p65, List.forall_mem_cons.mpr ⟨lw_p66, List.forall_mem_cons.mpr ⟨lw_p67, List.forall_mem_cons.mpr ⟨lw_p68, List.forall_mem_cons.mpr ⟨lw_p69, List.forall_mem_cons.mpr ⟨lw_p70, List.forall_mem_cons.mpr ⟨lw_p71, List.forall_mem_cons.mpr ⟨lw_p72, List.forall_mem_cons.mpr ⟨lw_p73, List.forall_mem_cons.mpr ⟨lw_p74, List.forall_mem_cons.mpr ⟨lw_p75, List.forall_mem_cons.mpr ⟨lw_p76, List.forall_mem_cons.mpr ⟨lw_p77, List.forall_mem_cons.mpr ⟨lw_p78, List.forall_mem_cons.mpr ⟨lw_p79, fun _ h => absurd h List.not_mem_nil⟩⟩⟩⟩⟩⟩⟩⟩⟩⟩⟩⟩⟩⟩⟩⟩
theorem lw_p80 : lw_okq (⟨"FrameBackEndModel", "branchAt", "(II)I"⟩, 30) := ⟨⟨by decide +kernel, by decide +kernel⟩, List.mem_of_getElem? (i := 610) (by decide +kernel), List.mem_of_getElem? (i := 843) (by decide +kernel), List.mem_of_getElem? (i := 844) (by decide +kernel)⟩
theorem lw_p81 : lw_okq (⟨"FrameBackEndModel", "step", "()V"⟩, 30) := ⟨⟨by decide +kernel, by decide +kernel⟩, List.mem_of_getElem? (i := 610) (by decide +kernel), List.mem_of_getElem? (i := 875) (by decide +kernel), List.mem_of_getElem? (i := 876) (by decide +kernel)⟩
theorem lw_p82 : lw_okq (⟨"FrameBackEndModel", "read", "(II)I"⟩, 30) := ⟨⟨by decide +kernel, by decide +kernel⟩, List.mem_of_getElem? (i := 610) (by decide +kernel), List.mem_of_getElem? (i := 879) (by decide +kernel), List.mem_of_getElem? (i := 880) (by decide +kernel)⟩
theorem lw_p83 : lw_okq (⟨"FrameBackEndModel", "decide", "(IZ)V"⟩, 30) := ⟨⟨by decide +kernel, by decide +kernel⟩, List.mem_of_getElem? (i := 610) (by decide +kernel), List.mem_of_getElem? (i := 883) (by decide +kernel), List.mem_of_getElem? (i := 884) (by decide +kernel)⟩
theorem lw_p84 : lw_okq (⟨"FrameBackEndModel", "touch", "(II)V"⟩, 30) := ⟨⟨by decide +kernel, by decide +kernel⟩, List.mem_of_getElem? (i := 610) (by decide +kernel), List.mem_of_getElem? (i := 887) (by decide +kernel), List.mem_of_getElem? (i := 888) (by decide +kernel)⟩
theorem lw_p85 : lw_okq (⟨"FrameBackEndModel", "write", "(III)V"⟩, 30) := ⟨⟨by decide +kernel, by decide +kernel⟩, List.mem_of_getElem? (i := 610) (by decide +kernel), List.mem_of_getElem? (i := 891) (by decide +kernel), List.mem_of_getElem? (i := 892) (by decide +kernel)⟩
theorem lw_p86 : lw_okq (⟨"FrameBackEndModel", "enter", "(II)V"⟩, 30) := ⟨⟨by decide +kernel, by decide +kernel⟩, List.mem_of_getElem? (i := 610) (by decide +kernel), List.mem_of_getElem? (i := 895) (by decide +kernel), List.mem_of_getElem? (i := 896) (by decide +kernel)⟩
theorem lw_p87 : lw_okq (⟨"FrameBackEndModel", "leave", "(II)V"⟩, 30) := ⟨⟨by decide +kernel, by decide +kernel⟩, List.mem_of_getElem? (i := 610) (by decide +kernel), List.mem_of_getElem? (i := 899) (by decide +kernel), List.mem_of_getElem? (i := 900) (by decide +kernel)⟩
theorem lw_p88 : lw_okq (⟨"FrameBackEndModel", "straight", "(II)V"⟩, 30) := ⟨⟨by decide +kernel, by decide +kernel⟩, List.mem_of_getElem? (i := 610) (by decide +kernel), List.mem_of_getElem? (i := 903) (by decide +kernel), List.mem_of_getElem? (i := 904) (by decide +kernel)⟩
theorem lw_p89 : lw_okq (⟨"FrameBackEndModel", "send", "(I)V"⟩, 30) := ⟨⟨by decide +kernel, by decide +kernel⟩, List.mem_of_getElem? (i := 610) (by decide +kernel), List.mem_of_getElem? (i := 907) (by decide +kernel), List.mem_of_getElem? (i := 908) (by decide +kernel)⟩
theorem lw_p90 : lw_okq (⟨"FrameBackEndModel", "compute", "(III)I"⟩, 30) := ⟨⟨by decide +kernel, by decide +kernel⟩, List.mem_of_getElem? (i := 610) (by decide +kernel), List.mem_of_getElem? (i := 911) (by decide +kernel), List.mem_of_getElem? (i := 912) (by decide +kernel)⟩
def lw_privs_6 : List (MethodName × Nat) := [(⟨"FrameBackEndModel", "branchAt", "(II)I"⟩, 30), (⟨"FrameBackEndModel", "step", "()V"⟩, 30), (⟨"FrameBackEndModel", "read", "(II)I"⟩, 30), (⟨"FrameBackEndModel", "decide", "(IZ)V"⟩, 30), (⟨"FrameBackEndModel", "touch", "(II)V"⟩, 30), (⟨"FrameBackEndModel", "write", "(III)V"⟩, 30), (⟨"FrameBackEndModel", "enter", "(II)V"⟩, 30), (⟨"FrameBackEndModel", "leave", "(II)V"⟩, 30), (⟨"FrameBackEndModel", "straight", "(II)V"⟩, 30), (⟨"FrameBackEndModel", "send", "(I)V"⟩, 30), (⟨"FrameBackEndModel", "compute", "(III)I"⟩, 30)]
theorem lw_r6 : ∀ q ∈ lw_privs_6, lw_okq q := List.forall_mem_cons.mpr ⟨lw_p80, List.forall_mem_cons.mpr ⟨lw_p81, List.forall_mem_cons.mpr ⟨lw_p82, List.forall_mem_cons.mpr ⟨lw_p83, List.forall_mem_cons.mpr ⟨lw_p84, List.forall_mem_cons.mpr ⟨lw_p85, List.forall_mem_cons.mpr ⟨lw_p86, List.forall_mem_cons.mpr ⟨lw_p87, List.forall_mem_cons.mpr ⟨lw_p88, List.forall_mem_cons.mpr ⟨lw_p89, List.forall_mem_cons.mpr ⟨lw_p90, fun _ h => absurd h List.not_mem_nil⟩⟩⟩⟩⟩⟩⟩⟩⟩⟩⟩
def lw_privs : List (MethodName × Nat) := lw_privs_1 ++ (lw_privs_2 ++ (lw_privs_3 ++ (lw_privs_4 ++ (lw_privs_5 ++ (lw_privs_6)))))
def lw_tbl : List Cond := k2_sels lw_privs ++ tables_1
theorem lw_privs_ok : ∀ q ∈ lw_privs, lw_okq q := by
  show ∀ q ∈ lw_privs_1 ++ (lw_privs_2 ++ (lw_privs_3 ++ (lw_privs_4 ++ (lw_privs_5 ++ (lw_privs_6))))), lw_okq q
  exact List.forall_mem_append.mpr ⟨lw_r1, List.forall_mem_append.mpr ⟨lw_r2, List.forall_mem_append.mpr ⟨lw_r3, List.forall_mem_append.mpr ⟨lw_r4, List.forall_mem_append.mpr ⟨lw_r5, lw_r6⟩⟩⟩⟩⟩
end
section
/-! names: cells, classes, methods; printed by wip/whole/gen/names.py -/
abbrev fb_Sh : Type := Nat × Nat × List (Option Nat)
def fb_shp : List fb_Sh := [(0, 0, [some 1, some 2, some 3, some 4, none]),
  (0, 1, [some 6, some 13, some 14, some 15, some 16, some 17, some 18, some 19, some 20, none, none]),
  (0, 2, [some 1, some 21, some 22, some 23, some 24]),
  (0, 3, [some 1, some 2, some 31, some 32, some 33, some 34, some 35, some 36, none, none, none, none]),
  (0, 4, [some 3, some 37, some 38, some 39, none, none, none, none, none, none, none, none, none]),
  (0, 5, [none, none, some 40, some 41, some 42, some 43, some 44, some 45, some 46, none, some 47, some 48, some 49, none, none, none, some 50, some 51, some 52, some 53, some 54, none, none, none, none, none, none, some 55, some 56, some 57]),
  (3, 6, [some 7]),
  (1, 6, []),
  (1, 6, []),
  (1, 6, []),
  (1, 6, []),
  (1, 6, []),
  (1, 6, []),
  (1, 6, []),
  (1, 6, []),
  (1, 6, []),
  (1, 60, []),
  (1, 60, []),
  (1, 60, []),
  (1, 60, []),
  (1, 60, []),
  (2, 36, []),
  (2, 36, []),
  (1, 6, []),
  (3, 6, [some 25]),
  (1, 6, []),
  (1, 6, []),
  (1, 6, []),
  (1, 6, []),
  (1, 6, []),
  (1, 6, []),
  (1, 500, []),
  (1, 500, []),
  (1, 60, []),
  (1, 60, []),
  (2, 60, []),
  (2, 60, []),
  (1, 128, []),
  (1, 100, []),
  (1, 6, []),
  (1, 6, []),
  (1, 6, []),
  (1, 36, []),
  (1, 144, []),
  (1, 144, []),
  (1, 144, []),
  (1, 144, []),
  (1, 6, []),
  (2, 36, []),
  (1, 1700, []),
  (1, 144, []),
  (2, 144, []),
  (2, 144, []),
  (1, 144, []),
  (1, 144, []),
  (1, 8, []),
  (1, 128, []),
  (1, 100, [])]
abbrev fb_N : Nat := 58
def fb_T0 : u_T := fun k => match k with
  | 0 => ("FrameBackEnd", "program", "LFrameBackEnd$Program;", true)
  | 1 => ("FrameBackEnd", "frames", "LFrameBackEnd$Frames;", true)
  | 2 => ("FrameBackEnd", "assembler", "LFrameBackEnd$Assembler;", true)
  | 3 => ("FrameBackEnd", "processor", "LFrameBackEnd$Processor;", true)
  | _ => ("FrameBackEnd", "hasCode", "Z", false)
def fb_T1 : u_T := fun k => match k with
  | 0 => ("FrameBackEnd$Program", "sizes", "[[I", true)
  | 1 => ("FrameBackEnd$Program", "variableCounts", "[I", true)
  | 2 => ("FrameBackEnd$Program", "firsts", "[I", true)
  | 3 => ("FrameBackEnd$Program", "counts", "[I", true)
  | 4 => ("FrameBackEnd$Program", "owners", "[I", true)
  | 5 => ("FrameBackEnd$Program", "ops", "[I", true)
  | 6 => ("FrameBackEnd$Program", "as", "[I", true)
  | 7 => ("FrameBackEnd$Program", "bs", "[I", true)
  | 8 => ("FrameBackEnd$Program", "cs", "[I", true)
  | 9 => ("FrameBackEnd$Program", "functionCount", "I", false)
  | _ => ("FrameBackEnd$Program", "total", "I", false)
def fb_T2 : u_T := fun k => match k with
  | 0 => ("FrameBackEnd$Frames", "program", "LFrameBackEnd$Program;", true)
  | 1 => ("FrameBackEnd$Frames", "calls", "[Z", true)
  | 2 => ("FrameBackEnd$Frames", "reaches", "[Z", true)
  | 3 => ("FrameBackEnd$Frames", "bases", "[I", true)
  | _ => ("FrameBackEnd$Frames", "places", "[[I", true)
def fb_T3 : u_T := fun k => match k with
  | 0 => ("FrameBackEnd$Assembler", "program", "LFrameBackEnd$Program;", true)
  | 1 => ("FrameBackEnd$Assembler", "frames", "LFrameBackEnd$Frames;", true)
  | 2 => ("FrameBackEnd$Assembler", "bytes", "[I", true)
  | 3 => ("FrameBackEnd$Assembler", "labels", "[I", true)
  | 4 => ("FrameBackEnd$Assembler", "addresses", "[I", true)
  | 5 => ("FrameBackEnd$Assembler", "branchAddresses", "[I", true)
  | 6 => ("FrameBackEnd$Assembler", "isTarget", "[Z", true)
  | 7 => ("FrameBackEnd$Assembler", "isLong", "[Z", true)
  | 8 => ("FrameBackEnd$Assembler", "size", "I", false)
  | 9 => ("FrameBackEnd$Assembler", "longCount", "I", false)
  | 10 => ("FrameBackEnd$Assembler", "held", "I", false)
  | _ => ("FrameBackEnd$Assembler", "current", "I", false)
def fb_T4 : u_T := fun k => match k with
  | 0 => ("FrameBackEnd$Processor", "assembler", "LFrameBackEnd$Assembler;", true)
  | 1 => ("FrameBackEnd$Processor", "data", "[I", true)
  | 2 => ("FrameBackEnd$Processor", "kept", "[I", true)
  | 3 => ("FrameBackEnd$Processor", "returns", "[I", true)
  | 4 => ("FrameBackEnd$Processor", "returnCount", "I", false)
  | 5 => ("FrameBackEnd$Processor", "status", "I", false)
  | 6 => ("FrameBackEnd$Processor", "stepCount", "I", false)
  | 7 => ("FrameBackEnd$Processor", "outCount", "I", false)
  | 8 => ("FrameBackEnd$Processor", "at", "I", false)
  | 9 => ("FrameBackEnd$Processor", "a", "I", false)
  | 10 => ("FrameBackEnd$Processor", "x", "I", false)
  | 11 => ("FrameBackEnd$Processor", "carry", "I", false)
  | _ => ("FrameBackEnd$Processor", "zero", "Z", false)
def fb_T5 : u_T := fun k => match k with
  | 0 => ("FrameBackEndModel", "functions", "I", false)
  | 1 => ("FrameBackEndModel", "instructions", "I", false)
  | 2 => ("FrameBackEndModel", "variables", "[I", true)
  | 3 => ("FrameBackEndModel", "lines", "[I", true)
  | 4 => ("FrameBackEndModel", "sizes", "[I", true)
  | 5 => ("FrameBackEndModel", "what", "[I", true)
  | 6 => ("FrameBackEndModel", "one", "[I", true)
  | 7 => ("FrameBackEndModel", "two", "[I", true)
  | 8 => ("FrameBackEndModel", "three", "[I", true)
  | 9 => ("FrameBackEndModel", "compiled", "Z", false)
  | 10 => ("FrameBackEndModel", "bases", "[I", true)
  | 11 => ("FrameBackEndModel", "calls", "[Z", true)
  | 12 => ("FrameBackEndModel", "bytes", "[I", true)
  | 13 => ("FrameBackEndModel", "length", "I", false)
  | 14 => ("FrameBackEndModel", "longOnes", "I", false)
  | 15 => ("FrameBackEndModel", "held", "I", false)
  | 16 => ("FrameBackEndModel", "starts", "[I", true)
  | 17 => ("FrameBackEndModel", "target", "[Z", true)
  | 18 => ("FrameBackEndModel", "distant", "[Z", true)
  | 19 => ("FrameBackEndModel", "costs", "[I", true)
  | 20 => ("FrameBackEndModel", "tails", "[I", true)
  | 21 => ("FrameBackEndModel", "written", "I", false)
  | 22 => ("FrameBackEndModel", "running", "Z", false)
  | 23 => ("FrameBackEndModel", "how", "I", false)
  | 24 => ("FrameBackEndModel", "done", "I", false)
  | 25 => ("FrameBackEndModel", "active", "I", false)
  | 26 => ("FrameBackEndModel", "sent", "I", false)
  | 27 => ("FrameBackEndModel", "at", "[I", true)
  | 28 => ("FrameBackEndModel", "data", "[I", true)
  | _ => ("FrameBackEndModel", "outputs", "[I", true)
abbrev fb_cl : List vw_C := [("FrameBackEnd", fb_T0, 5), ("FrameBackEnd$Program", fb_T1, 11), ("FrameBackEnd$Frames", fb_T2, 5), ("FrameBackEnd$Assembler", fb_T3, 12), ("FrameBackEnd$Processor", fb_T4, 13), ("FrameBackEndModel", fb_T5, 30)]
def fb_isN : Cond → Bool
  | .fieldLinkNest .. => true
  | .methodLinkNest .. => true
  | _ => false
def fb_NW : List Cond := tables_1.filter fb_isN
def fb_WA : List Cond := lw_tbl.filter goodWord
theorem fb_tb {w : Cond} (i : Nat) (h : tables_1[i]? = some w) (hg : goodWord w = true) : w ∈ fb_WA := List.mem_filter.mpr ⟨List.mem_append_right _ (List.mem_of_getElem? h), hg⟩
theorem fb_tn {w : Cond} (i : Nat) (h : tables_1[i]? = some w) (hg : fb_isN w = true) : w ∈ fb_NW := List.mem_filter.mpr ⟨List.mem_of_getElem? h, hg⟩
theorem fb_r1 {w : Cond} (h : w ∈ tables_1_1) : w ∈ tables_1 := List.mem_append_left _ h
theorem fb_r2 {w : Cond} (h : w ∈ tables_1_2) : w ∈ tables_1 := List.mem_append_right _ (List.mem_append_left _ h)
theorem fb_r3 {w : Cond} (h : w ∈ tables_1_3) : w ∈ tables_1 := List.mem_append_right _ (List.mem_append_right _ (List.mem_append_left _ h))
theorem fb_r4 {w : Cond} (h : w ∈ tables_1_4) : w ∈ tables_1 := List.mem_append_right _ (List.mem_append_right _ (List.mem_append_right _ h))
theorem fb_inb {w : Cond} (h : w ∈ tables_1) (hg : goodWord w = true) : w ∈ fb_WA := List.mem_filter.mpr ⟨List.mem_append_right _ h, hg⟩
theorem fb_inn {w : Cond} (h : w ∈ tables_1) (hg : fb_isN w = true) : w ∈ fb_NW := List.mem_filter.mpr ⟨h, hg⟩
theorem fb_tb1 {w : Cond} (i : Nat) (h : tables_1_1[i]? = some w) (hg : goodWord w = true) : w ∈ fb_WA := fb_inb (fb_r1 (List.mem_of_getElem? h)) hg
theorem fb_tb2 {w : Cond} (i : Nat) (h : tables_1_2[i]? = some w) (hg : goodWord w = true) : w ∈ fb_WA := fb_inb (fb_r2 (List.mem_of_getElem? h)) hg
theorem fb_tb3 {w : Cond} (i : Nat) (h : tables_1_3[i]? = some w) (hg : goodWord w = true) : w ∈ fb_WA := fb_inb (fb_r3 (List.mem_of_getElem? h)) hg
theorem fb_tb4 {w : Cond} (i : Nat) (h : tables_1_4[i]? = some w) (hg : goodWord w = true) : w ∈ fb_WA := fb_inb (fb_r4 (List.mem_of_getElem? h)) hg
theorem fb_tn1 {w : Cond} (i : Nat) (h : tables_1_1[i]? = some w) (hg : fb_isN w = true) : w ∈ fb_NW := fb_inn (fb_r1 (List.mem_of_getElem? h)) hg
theorem fb_tn2 {w : Cond} (i : Nat) (h : tables_1_2[i]? = some w) (hg : fb_isN w = true) : w ∈ fb_NW := fb_inn (fb_r2 (List.mem_of_getElem? h)) hg
theorem fb_tn3 {w : Cond} (i : Nat) (h : tables_1_3[i]? = some w) (hg : fb_isN w = true) : w ∈ fb_NW := fb_inn (fb_r3 (List.mem_of_getElem? h)) hg
theorem fb_tn4 {w : Cond} (i : Nat) (h : tables_1_4[i]? = some w) (hg : fb_isN w = true) : w ∈ fb_NW := fb_inn (fb_r4 (List.mem_of_getElem? h)) hg
theorem fb_ts {y : MethodName} (i : Nat) {n : Nat} (h : lw_privs[i]? = some (y, n)) : Cond.selects y.cls y y ∈ fb_WA := List.mem_filter.mpr ⟨List.mem_append_left _ (List.mem_map.mpr ⟨(y, n), List.mem_of_getElem? h, rfl⟩), rfl⟩
theorem fb_w0 : ∀ w ∈ u_ws "FrameBackEnd" fb_T0 5, w ∈ fb_WA := by
  have e : u_ws "FrameBackEnd" fb_T0 5 = [208, 210, 212, 214, 216].filterMap (fun i : Nat => tables_1[i]?) := by decide +kernel
  have g : (u_ws "FrameBackEnd" fb_T0 5).all goodWord = true := by decide +kernel
  intro w hw
  have h1 := List.all_eq_true.mp g w hw
  rw [e] at hw
  obtain ⟨i, -, hi⟩ := List.mem_filterMap.mp hw
  exact fb_tb i hi h1
theorem fb_w1 : ∀ w ∈ u_ws "FrameBackEnd$Program" fb_T1 11, w ∈ fb_WA := by
  have e : u_ws "FrameBackEnd$Program" fb_T1 11 = [51, 53, 55, 57, 59, 61, 63, 65, 67, 69, 71].filterMap (fun i : Nat => tables_1[i]?) := by decide +kernel
  have g : (u_ws "FrameBackEnd$Program" fb_T1 11).all goodWord = true := by decide +kernel
  intro w hw
  have h1 := List.all_eq_true.mp g w hw
  rw [e] at hw
  obtain ⟨i, -, hi⟩ := List.mem_filterMap.mp hw
  exact fb_tb i hi h1
theorem fb_w2 : ∀ w ∈ u_ws "FrameBackEnd$Frames" fb_T2 5, w ∈ fb_WA := by
  have e : u_ws "FrameBackEnd$Frames" fb_T2 5 = [90, 92, 94, 96, 98].filterMap (fun i : Nat => tables_1[i]?) := by decide +kernel
  have g : (u_ws "FrameBackEnd$Frames" fb_T2 5).all goodWord = true := by decide +kernel
  intro w hw
  have h1 := List.all_eq_true.mp g w hw
  rw [e] at hw
  obtain ⟨i, -, hi⟩ := List.mem_filterMap.mp hw
  exact fb_tb i hi h1
theorem fb_w3 : ∀ w ∈ u_ws "FrameBackEnd$Assembler" fb_T3 12, w ∈ fb_WA := by
  have e : u_ws "FrameBackEnd$Assembler" fb_T3 12 = [126, 128, 130, 132, 134, 136, 138, 140, 142, 144, 146, 148].filterMap (fun i : Nat => tables_1[i]?) := by decide +kernel
  have g : (u_ws "FrameBackEnd$Assembler" fb_T3 12).all goodWord = true := by decide +kernel
  intro w hw
  have h1 := List.all_eq_true.mp g w hw
  rw [e] at hw
  obtain ⟨i, -, hi⟩ := List.mem_filterMap.mp hw
  exact fb_tb i hi h1
theorem fb_w4 : ∀ w ∈ u_ws "FrameBackEnd$Processor" fb_T4 13, w ∈ fb_WA := by
  have e : u_ws "FrameBackEnd$Processor" fb_T4 13 = [176, 178, 180, 182, 184, 186, 188, 190, 192, 194, 196, 198, 200].filterMap (fun i : Nat => tables_1[i]?) := by decide +kernel
  have g : (u_ws "FrameBackEnd$Processor" fb_T4 13).all goodWord = true := by decide +kernel
  intro w hw
  have h1 := List.all_eq_true.mp g w hw
  rw [e] at hw
  obtain ⟨i, -, hi⟩ := List.mem_filterMap.mp hw
  exact fb_tb i hi h1
theorem fb_w5 : ∀ w ∈ u_ws "FrameBackEndModel" fb_T5 30, w ∈ fb_WA := by
  have e : u_ws "FrameBackEndModel" fb_T5 30 = [645, 647, 649, 651, 653, 655, 657, 659, 661, 663, 665, 667, 669, 671, 673, 675, 677, 679, 681, 683, 685, 687, 689, 691, 693, 695, 697, 699, 701, 703].filterMap (fun i : Nat => tables_1[i]?) := by decide +kernel
  have g : (u_ws "FrameBackEndModel" fb_T5 30).all goodWord = true := by decide +kernel
  intro w hw
  have h1 := List.all_eq_true.mp g w hw
  rw [e] at hw
  obtain ⟨i, -, hi⟩ := List.mem_filterMap.mp hw
  exact fb_tb i hi h1
theorem fb_cl_ok : ∀ q ∈ fb_cl, ∀ w ∈ u_ws q.1 q.2.1 q.2.2, w ∈ fb_WA := by
  intro q hq
  simp only [fb_cl, List.mem_cons, List.not_mem_nil, or_false] at hq
  rcases hq with rfl | rfl | rfl | rfl | rfl | rfl
  · exact fb_w0
  · exact fb_w1
  · exact fb_w2
  · exact fb_w3
  · exact fb_w4
  · exact fb_w5
theorem fb_ty0 : (∀ k, k < 5 → (parseFieldDescriptor (fb_T0 k).2.2.1).isSome = true) ∧ ∀ a, a < 5 → ∀ b, b < 5 → a ≠ b → (fb_T0 a).2.1 ≠ (fb_T0 b).2.1 := by decide +kernel
theorem fb_ty1 : (∀ k, k < 11 → (parseFieldDescriptor (fb_T1 k).2.2.1).isSome = true) ∧ ∀ a, a < 11 → ∀ b, b < 11 → a ≠ b → (fb_T1 a).2.1 ≠ (fb_T1 b).2.1 := by decide +kernel
theorem fb_ty2 : (∀ k, k < 5 → (parseFieldDescriptor (fb_T2 k).2.2.1).isSome = true) ∧ ∀ a, a < 5 → ∀ b, b < 5 → a ≠ b → (fb_T2 a).2.1 ≠ (fb_T2 b).2.1 := by decide +kernel
theorem fb_ty3 : (∀ k, k < 12 → (parseFieldDescriptor (fb_T3 k).2.2.1).isSome = true) ∧ ∀ a, a < 12 → ∀ b, b < 12 → a ≠ b → (fb_T3 a).2.1 ≠ (fb_T3 b).2.1 := by decide +kernel
theorem fb_ty4 : (∀ k, k < 13 → (parseFieldDescriptor (fb_T4 k).2.2.1).isSome = true) ∧ ∀ a, a < 13 → ∀ b, b < 13 → a ≠ b → (fb_T4 a).2.1 ≠ (fb_T4 b).2.1 := by decide +kernel
theorem fb_ty5 : (∀ k, k < 30 → (parseFieldDescriptor (fb_T5 k).2.2.1).isSome = true) ∧ ∀ a, a < 30 → ∀ b, b < 30 → a ≠ b → (fb_T5 a).2.1 ≠ (fb_T5 b).2.1 := by decide +kernel
theorem fb_cl_ty {ci : Nat} {C : String} {T : u_T} {N : Nat} (hc : fb_cl[ci]? = some (C, T, N)) : ∃ t0 : Nat → FieldType, (∀ k, k < N → parseFieldDescriptor (T k).2.2.1 = some (t0 k)) ∧ ∀ a, a < N → ∀ b, b < N → a ≠ b → (T a).2.1 ≠ (T b).2.1 := by
  have key : ∀ q ∈ fb_cl, (∀ k, k < q.2.2 → (parseFieldDescriptor (q.2.1 k).2.2.1).isSome = true) ∧ ∀ a, a < q.2.2 → ∀ b, b < q.2.2 → a ≠ b → (q.2.1 a).2.1 ≠ (q.2.1 b).2.1 := by
    intro q hq
    simp only [fb_cl, List.mem_cons, List.not_mem_nil, or_false] at hq
    rcases hq with rfl | rfl | rfl | rfl | rfl | rfl
    · exact fb_ty0
    · exact fb_ty1
    · exact fb_ty2
    · exact fb_ty3
    · exact fb_ty4
    · exact fb_ty5
  obtain ⟨h1, h2⟩ := key _ (List.mem_of_getElem? hc)
  exact ⟨fun k => (parseFieldDescriptor (T k).2.2.1).getD .int, fun k hk => by
    have := h1 k hk
    obtain ⟨t, ht⟩ := Option.isSome_iff_exists.mp this
    have ht2 : parseFieldDescriptor (T k).2.2.1 = some t := ht
    show parseFieldDescriptor (T k).2.2.1 = some ((parseFieldDescriptor (T k).2.2.1).getD .int)
    rw [ht2]; rfl, h2⟩
def fb_sorts (j : Nat) : Int := ([1, 4, 0, 1, 1, 0, 1, 1, 1, 1, 1, 1, 1, 1, 1, 1, 1, 1, 1, 1, 1, 1, 0, 0, 1, 3, 2, 3, 2, 1, 0, 0, 0, 1, 0, 0, 1, 1, 0, 0, 1, 1, 1, 0, 0, 1, 0, 0] : List Int).getD j 0
-- a method: name, bytes, locals, return type, height of its calls
abbrev fb_M : Type := MethodName × ByteArray × Nat × Option FieldType × Nat
def fb_cd (z : fb_M) : Prop := Cond.code z.1 z.2.1 z.2.2.1 z.2.2.2.1 ∈ fb_WA
abbrev fb_Fb_function : fb_M := (⟨"FrameBackEnd", "function", "()I"⟩, prog_1_method_2_code, 1, (some .int), 3)
abbrev fb_Fb_variable : fb_M := (⟨"FrameBackEnd", "variable", "(I)I"⟩, prog_1_method_3_code, 2, (some .int), 3)
abbrev fb_Fb_op : fb_M := (⟨"FrameBackEnd", "op", "(IIII)I"⟩, prog_1_method_4_code, 5, (some .int), 3)
abbrev fb_Fb_compile : fb_M := (⟨"FrameBackEnd", "compile", "()I"⟩, prog_1_method_5_code, 2, (some .int), 6)
abbrev fb_Fb_length : fb_M := (⟨"FrameBackEnd", "length", "()I"⟩, prog_1_method_6_code, 1, (some .int), 0)
abbrev fb_Fb_code : fb_M := (⟨"FrameBackEnd", "code", "(I)I"⟩, prog_1_method_7_code, 2, (some .int), 0)
abbrev fb_Fb_longs : fb_M := (⟨"FrameBackEnd", "longs", "()I"⟩, prog_1_method_8_code, 1, (some .int), 0)
abbrev fb_Fb_base : fb_M := (⟨"FrameBackEnd", "base", "(I)I"⟩, prog_1_method_9_code, 2, (some .int), 1)
abbrev fb_Fb_address : fb_M := (⟨"FrameBackEnd", "address", "(II)I"⟩, prog_1_method_10_code, 3, (some .int), 2)
abbrev fb_Fb_start : fb_M := (⟨"FrameBackEnd", "start", "()Z"⟩, prog_1_method_11_code, 1, (some .boolean), 2)
abbrev fb_Fb_run : fb_M := (⟨"FrameBackEnd", "run", "(I)I"⟩, prog_1_method_12_code, 2, (some .int), 6)
abbrev fb_Fb_state : fb_M := (⟨"FrameBackEnd", "state", "()I"⟩, prog_1_method_13_code, 1, (some .int), 0)
abbrev fb_Fb_spent : fb_M := (⟨"FrameBackEnd", "spent", "()I"⟩, prog_1_method_14_code, 1, (some .int), 0)
abbrev fb_Fb_next : fb_M := (⟨"FrameBackEnd", "next", "()I"⟩, prog_1_method_15_code, 1, (some .int), 2)
abbrev fb_Fb_depth : fb_M := (⟨"FrameBackEnd", "depth", "()I"⟩, prog_1_method_16_code, 1, (some .int), 0)
abbrev fb_Fb_value : fb_M := (⟨"FrameBackEnd", "value", "(II)I"⟩, prog_1_method_17_code, 5, (some .int), 2)
abbrev fb_Fb_output : fb_M := (⟨"FrameBackEnd", "output", "(I)I"⟩, prog_1_method_18_code, 2, (some .int), 0)
abbrev fb_Fb_accepted : fb_M := (⟨"FrameBackEnd", "accepted", "(I)I"⟩, prog_1_method_19_code, 2, (some .int), 2)
abbrev fb_Fb_dropCode : fb_M := (⟨"FrameBackEnd", "dropCode", "()V"⟩, prog_1_method_20_code, 1, none, 1)
abbrev fb_Fb_faultOfProgram : fb_M := (⟨"FrameBackEnd", "faultOfProgram", "()I"⟩, prog_1_method_21_code, 1, (some .int), 4)
abbrev fb_Mo_change : fb_M := (⟨"FrameBackEndModel", "change", "()V"⟩, prog_7_method_2_code, 1, none, 0)
abbrev fb_Mo_function : fb_M := (⟨"FrameBackEndModel", "function", "()I"⟩, prog_7_method_3_code, 1, (some .int), 1)
abbrev fb_Mo_variable : fb_M := (⟨"FrameBackEndModel", "variable", "(I)I"⟩, prog_7_method_4_code, 3, (some .int), 1)
abbrev fb_Mo_is : fb_M := (⟨"FrameBackEndModel", "is", "(III)Z"⟩, prog_7_method_5_code, 5, (some .boolean), 0)
abbrev fb_Mo_scalar : fb_M := (⟨"FrameBackEndModel", "scalar", "(I)Z"⟩, prog_7_method_6_code, 2, (some .boolean), 1)
abbrev fb_Mo_fine : fb_M := (⟨"FrameBackEndModel", "fine", "(IIII)Z"⟩, prog_7_method_7_code, 5, (some .boolean), 2)
abbrev fb_Mo_op : fb_M := (⟨"FrameBackEndModel", "op", "(IIII)I"⟩, prog_7_method_8_code, 7, (some .int), 3)
abbrev fb_Mo_branches : fb_M := (⟨"FrameBackEndModel", "branches", "(I)Z"⟩, prog_7_method_9_code, 1, (some .boolean), 0)
abbrev fb_Mo_goal : fb_M := (⟨"FrameBackEndModel", "goal", "(I)I"⟩, prog_7_method_10_code, 2, (some .int), 0)
abbrev fb_Mo_ended : fb_M := (⟨"FrameBackEndModel", "ended", "()Z"⟩, prog_7_method_11_code, 3, (some .boolean), 0)
abbrev fb_Mo_aimed : fb_M := (⟨"FrameBackEndModel", "aimed", "()Z"⟩, prog_7_method_12_code, 3, (some .boolean), 1)
abbrev fb_Mo_called : fb_M := (⟨"FrameBackEndModel", "called", "()Z"⟩, prog_7_method_13_code, 3, (some .boolean), 0)
abbrev fb_Mo_rings : fb_M := (⟨"FrameBackEndModel", "rings", "()Z"⟩, prog_7_method_14_code, 8, (some .boolean), 0)
abbrev fb_Mo_end : fb_M := (⟨"FrameBackEndModel", "end", "(I)I"⟩, prog_7_method_15_code, 4, (some .int), 0)
abbrev fb_Mo_framed : fb_M := (⟨"FrameBackEndModel", "framed", "()Z"⟩, prog_7_method_16_code, 5, (some .boolean), 1)
abbrev fb_Mo_place : fb_M := (⟨"FrameBackEndModel", "place", "(II)I"⟩, prog_7_method_17_code, 5, (some .int), 0)
abbrev fb_Mo_part : fb_M := (⟨"FrameBackEndModel", "part", "(III)I"⟩, prog_7_method_18_code, 4, (some .int), 1)
abbrev fb_Mo_put : fb_M := (⟨"FrameBackEndModel", "put", "(I)V"⟩, prog_7_method_19_code, 2, none, 0)
abbrev fb_Mo_plain : fb_M := (⟨"FrameBackEndModel", "plain", "(I)V"⟩, prog_7_method_20_code, 2, none, 1)
abbrev fb_Mo_with : fb_M := (⟨"FrameBackEndModel", "with", "(II)V"⟩, prog_7_method_21_code, 3, none, 1)
abbrev fb_Mo_indexed : fb_M := (⟨"FrameBackEndModel", "indexed", "(II)V"⟩, prog_7_method_22_code, 3, none, 1)
abbrev fb_Mo_to : fb_M := (⟨"FrameBackEndModel", "to", "(II)V"⟩, prog_7_method_23_code, 3, none, 1)
abbrev fb_Mo_load : fb_M := (⟨"FrameBackEndModel", "load", "(I)V"⟩, prog_7_method_24_code, 2, none, 2)
abbrev fb_Mo_move : fb_M := (⟨"FrameBackEndModel", "move", "(II)V"⟩, prog_7_method_25_code, 3, none, 3)
abbrev fb_Mo_branch : fb_M := (⟨"FrameBackEndModel", "branch", "(II)V"⟩, prog_7_method_26_code, 5, none, 2)
abbrev fb_Mo_guard : fb_M := (⟨"FrameBackEndModel", "guard", "(II)V"⟩, prog_7_method_27_code, 3, none, 2)
abbrev fb_Mo_arithmetic : fb_M := (⟨"FrameBackEndModel", "arithmetic", "(II)V"⟩, prog_7_method_28_code, 9, none, 3)
abbrev fb_Mo_call : fb_M := (⟨"FrameBackEndModel", "call", "(II)V"⟩, prog_7_method_29_code, 8, none, 4)
abbrev fb_Mo_tests : fb_M := (⟨"FrameBackEndModel", "tests", "(II)V"⟩, prog_7_method_30_code, 9, none, 3)
abbrev fb_Mo_arrays : fb_M := (⟨"FrameBackEndModel", "arrays", "(II)V"⟩, prog_7_method_31_code, 8, none, 4)
abbrev fb_Mo_others : fb_M := (⟨"FrameBackEndModel", "others", "(II)V"⟩, prog_7_method_32_code, 8, none, 4)
abbrev fb_Mo_layOut : fb_M := (⟨"FrameBackEndModel", "layOut", "()V"⟩, prog_7_method_33_code, 4, none, 5)
abbrev fb_Mo_branchAt : fb_M := (⟨"FrameBackEndModel", "branchAt", "(II)I"⟩, prog_7_method_34_code, 4, (some .int), 0)
abbrev fb_Mo_stretched : fb_M := (⟨"FrameBackEndModel", "stretched", "()Z"⟩, prog_7_method_35_code, 5, (some .boolean), 1)
abbrev fb_Mo_compile : fb_M := (⟨"FrameBackEndModel", "compile", "()I"⟩, prog_7_method_36_code, 2, (some .int), 6)
abbrev fb_Mo_length : fb_M := (⟨"FrameBackEndModel", "length", "()I"⟩, prog_7_method_37_code, 1, (some .int), 0)
abbrev fb_Mo_code : fb_M := (⟨"FrameBackEndModel", "code", "(I)I"⟩, prog_7_method_38_code, 2, (some .int), 0)
abbrev fb_Mo_longs : fb_M := (⟨"FrameBackEndModel", "longs", "()I"⟩, prog_7_method_39_code, 1, (some .int), 0)
abbrev fb_Mo_base : fb_M := (⟨"FrameBackEndModel", "base", "(I)I"⟩, prog_7_method_40_code, 2, (some .int), 0)
abbrev fb_Mo_address : fb_M := (⟨"FrameBackEndModel", "address", "(II)I"⟩, prog_7_method_41_code, 3, (some .int), 0)
abbrev fb_Mo_start : fb_M := (⟨"FrameBackEndModel", "start", "()Z"⟩, prog_7_method_42_code, 2, (some .boolean), 0)
abbrev fb_Mo_read : fb_M := (⟨"FrameBackEndModel", "read", "(II)I"⟩, prog_7_method_43_code, 4, (some .int), 1)
abbrev fb_Mo_write : fb_M := (⟨"FrameBackEndModel", "write", "(III)V"⟩, prog_7_method_44_code, 5, none, 1)
abbrev fb_Mo_send : fb_M := (⟨"FrameBackEndModel", "send", "(I)V"⟩, prog_7_method_45_code, 2, none, 0)
abbrev fb_Mo_compute : fb_M := (⟨"FrameBackEndModel", "compute", "(III)I"⟩, prog_7_method_46_code, 4, (some .int), 0)
abbrev fb_Mo_decide : fb_M := (⟨"FrameBackEndModel", "decide", "(IZ)V"⟩, prog_7_method_47_code, 3, none, 1)
abbrev fb_Mo_touch : fb_M := (⟨"FrameBackEndModel", "touch", "(II)V"⟩, prog_7_method_48_code, 7, none, 2)
abbrev fb_Mo_enter : fb_M := (⟨"FrameBackEndModel", "enter", "(II)V"⟩, prog_7_method_49_code, 5, none, 2)
abbrev fb_Mo_leave : fb_M := (⟨"FrameBackEndModel", "leave", "(II)V"⟩, prog_7_method_50_code, 5, none, 2)
abbrev fb_Mo_step : fb_M := (⟨"FrameBackEndModel", "step", "()V"⟩, prog_7_method_51_code, 5, none, 3)
abbrev fb_Mo_straight : fb_M := (⟨"FrameBackEndModel", "straight", "(II)V"⟩, prog_7_method_52_code, 7, none, 2)
abbrev fb_Mo_run : fb_M := (⟨"FrameBackEndModel", "run", "(I)I"⟩, prog_7_method_53_code, 3, (some .int), 4)
abbrev fb_Mo_state : fb_M := (⟨"FrameBackEndModel", "state", "()I"⟩, prog_7_method_54_code, 1, (some .int), 0)
abbrev fb_Mo_spent : fb_M := (⟨"FrameBackEndModel", "spent", "()I"⟩, prog_7_method_55_code, 1, (some .int), 0)
abbrev fb_Mo_next : fb_M := (⟨"FrameBackEndModel", "next", "()I"⟩, prog_7_method_56_code, 1, (some .int), 0)
abbrev fb_Mo_depth : fb_M := (⟨"FrameBackEndModel", "depth", "()I"⟩, prog_7_method_57_code, 1, (some .int), 0)
abbrev fb_Mo_value : fb_M := (⟨"FrameBackEndModel", "value", "(II)I"⟩, prog_7_method_58_code, 4, (some .int), 1)
abbrev fb_Mo_output : fb_M := (⟨"FrameBackEndModel", "output", "(I)I"⟩, prog_7_method_59_code, 2, (some .int), 0)
abbrev fb_As_assemble : fb_M := (⟨"FrameBackEnd$Assembler", "assemble", "()V"⟩, prog_2_method_2_code, 3, none, 5)
abbrev fb_As_markTargets : fb_M := (⟨"FrameBackEnd$Assembler", "markTargets", "()V"⟩, prog_2_method_3_code, 2, none, 2)
abbrev fb_As_lengthenBranches : fb_M := (⟨"FrameBackEnd$Assembler", "lengthenBranches", "()Z"⟩, prog_2_method_4_code, 4, (some .boolean), 3)
abbrev fb_As_reachesGoal : fb_M := (⟨"FrameBackEnd$Assembler", "reachesGoal", "(I)Z"⟩, prog_2_method_5_code, 4, (some .boolean), 2)
abbrev fb_As_markLabels : fb_M := (⟨"FrameBackEnd$Assembler", "markLabels", "()V"⟩, prog_2_method_6_code, 3, none, 1)
abbrev fb_As_emitProgram : fb_M := (⟨"FrameBackEnd$Assembler", "emitProgram", "()V"⟩, prog_2_method_7_code, 2, none, 4)
abbrev fb_As_emitInstruction : fb_M := (⟨"FrameBackEnd$Assembler", "emitInstruction", "(IIII)V"⟩, prog_2_method_8_code, 5, none, 3)
abbrev fb_As_emitSet : fb_M := (⟨"FrameBackEnd$Assembler", "emitSet", "(II)V"⟩, prog_2_method_9_code, 4, none, 2)
abbrev fb_As_emitMove : fb_M := (⟨"FrameBackEnd$Assembler", "emitMove", "(II)V"⟩, prog_2_method_10_code, 4, none, 2)
abbrev fb_As_emitCombine : fb_M := (⟨"FrameBackEnd$Assembler", "emitCombine", "(IIII)V"⟩, prog_2_method_11_code, 6, none, 2)
abbrev fb_As_emitDouble : fb_M := (⟨"FrameBackEnd$Assembler", "emitDouble", "(I)V"⟩, prog_2_method_12_code, 2, none, 2)
abbrev fb_As_emitLoad : fb_M := (⟨"FrameBackEnd$Assembler", "emitLoad", "(II)V"⟩, prog_2_method_13_code, 3, none, 2)
abbrev fb_As_emitStore : fb_M := (⟨"FrameBackEnd$Assembler", "emitStore", "(II)V"⟩, prog_2_method_14_code, 3, none, 2)
abbrev fb_As_emitIndex : fb_M := (⟨"FrameBackEnd$Assembler", "emitIndex", "(II)V"⟩, prog_2_method_15_code, 3, none, 2)
abbrev fb_As_emitZero : fb_M := (⟨"FrameBackEnd$Assembler", "emitZero", "(I)V"⟩, prog_2_method_16_code, 2, none, 2)
abbrev fb_As_emitBelow : fb_M := (⟨"FrameBackEnd$Assembler", "emitBelow", "(II)V"⟩, prog_2_method_17_code, 3, none, 2)
abbrev fb_As_emitCall : fb_M := (⟨"FrameBackEnd$Assembler", "emitCall", "(III)V"⟩, prog_2_method_18_code, 6, none, 2)
abbrev fb_As_emitReturn : fb_M := (⟨"FrameBackEnd$Assembler", "emitReturn", "(I)V"⟩, prog_2_method_19_code, 3, none, 2)
abbrev fb_As_emitOut : fb_M := (⟨"FrameBackEnd$Assembler", "emitOut", "(I)V"⟩, prog_2_method_20_code, 3, none, 2)
abbrev fb_As_isWide : fb_M := (⟨"FrameBackEnd$Assembler", "isWide", "(I)Z"⟩, prog_2_method_21_code, 2, (some .boolean), 1)
abbrev fb_As_part : fb_M := (⟨"FrameBackEnd$Assembler", "part", "(II)I"⟩, prog_2_method_22_code, 3, (some .int), 1)
abbrev fb_As_emit : fb_M := (⟨"FrameBackEnd$Assembler", "emit", "(II)V"⟩, prog_2_method_23_code, 4, none, 1)
abbrev fb_As_formOf : fb_M := (⟨"FrameBackEnd$Assembler", "formOf", "(I)I"⟩, prog_2_method_24_code, 1, (some .int), 0)
abbrev fb_As_heldBehind : fb_M := (⟨"FrameBackEnd$Assembler", "heldBehind", "(II)I"⟩, prog_2_method_25_code, 3, (some .int), 0)
abbrev fb_As_emitAlone : fb_M := (⟨"FrameBackEnd$Assembler", "emitAlone", "(I)V"⟩, prog_2_method_26_code, 2, none, 1)
abbrev fb_As_emitJump : fb_M := (⟨"FrameBackEnd$Assembler", "emitJump", "(II)V"⟩, prog_2_method_27_code, 3, none, 1)
abbrev fb_As_emitBranch : fb_M := (⟨"FrameBackEnd$Assembler", "emitBranch", "(II)V"⟩, prog_2_method_28_code, 4, none, 2)
abbrev fb_As_opposite : fb_M := (⟨"FrameBackEnd$Assembler", "opposite", "(I)I"⟩, prog_2_method_29_code, 1, (some .int), 0)
abbrev fb_As_put : fb_M := (⟨"FrameBackEnd$Assembler", "put", "(I)V"⟩, prog_2_method_30_code, 2, none, 0)
abbrev fb_Fr_gatherCalls : fb_M := (⟨"FrameBackEnd$Frames", "gatherCalls", "()V"⟩, prog_3_method_2_code, 2, none, 0)
abbrev fb_Fr_hasRecursion : fb_M := (⟨"FrameBackEnd$Frames", "hasRecursion", "()Z"⟩, prog_3_method_3_code, 2, (some .boolean), 1)
abbrev fb_Fr_closeCalls : fb_M := (⟨"FrameBackEnd$Frames", "closeCalls", "()V"⟩, prog_3_method_4_code, 5, none, 0)
abbrev fb_Fr_findBases : fb_M := (⟨"FrameBackEnd$Frames", "findBases", "()V"⟩, prog_3_method_5_code, 3, none, 3)
abbrev fb_Fr_pushCallees : fb_M := (⟨"FrameBackEnd$Frames", "pushCallees", "(I)V"⟩, prog_3_method_6_code, 3, none, 2)
abbrev fb_Fr_endOf : fb_M := (⟨"FrameBackEnd$Frames", "endOf", "(I)I"⟩, prog_3_method_7_code, 2, (some .int), 1)
abbrev fb_Fr_fit : fb_M := (⟨"FrameBackEnd$Frames", "fit", "()Z"⟩, prog_3_method_8_code, 2, (some .boolean), 2)
abbrev fb_Fr_placeVariables : fb_M := (⟨"FrameBackEnd$Frames", "placeVariables", "()V"⟩, prog_3_method_9_code, 4, none, 0)
abbrev fb_Po_drop : fb_M := (⟨"FrameBackEnd$Processor", "drop", "()V"⟩, prog_4_method_2_code, 1, none, 0)
abbrev fb_Po_begin : fb_M := (⟨"FrameBackEnd$Processor", "begin", "()V"⟩, prog_4_method_3_code, 1, none, 1)
abbrev fb_Po_label : fb_M := (⟨"FrameBackEnd$Processor", "label", "()I"⟩, prog_4_method_4_code, 1, (some .int), 1)
abbrev fb_Po_labelHere : fb_M := (⟨"FrameBackEnd$Processor", "labelHere", "()I"⟩, prog_4_method_5_code, 1, (some .int), 0)
abbrev fb_Po_perform : fb_M := (⟨"FrameBackEnd$Processor", "perform", "(I)I"⟩, prog_4_method_6_code, 3, (some .int), 5)
abbrev fb_Po_performOne : fb_M := (⟨"FrameBackEnd$Processor", "performOne", "()V"⟩, prog_4_method_7_code, 3, none, 4)
abbrev fb_Po_step : fb_M := (⟨"FrameBackEnd$Processor", "step", "()V"⟩, prog_4_method_8_code, 4, none, 3)
abbrev fb_Po_fetch : fb_M := (⟨"FrameBackEnd$Processor", "fetch", "()I"⟩, prog_4_method_9_code, 2, (some .int), 0)
abbrev fb_Po_fetchOperand : fb_M := (⟨"FrameBackEnd$Processor", "fetchOperand", "(I)I"⟩, prog_4_method_10_code, 3, (some .int), 1)
abbrev fb_Po_read : fb_M := (⟨"FrameBackEnd$Processor", "read", "(I)I"⟩, prog_4_method_11_code, 2, (some .int), 0)
abbrev fb_Po_write : fb_M := (⟨"FrameBackEnd$Processor", "write", "(II)V"⟩, prog_4_method_12_code, 3, none, 0)
abbrev fb_Po_doWithData : fb_M := (⟨"FrameBackEnd$Processor", "doWithData", "(II)V"⟩, prog_4_method_13_code, 5, none, 2)
abbrev fb_Po_setA : fb_M := (⟨"FrameBackEnd$Processor", "setA", "(I)V"⟩, prog_4_method_14_code, 2, none, 0)
abbrev fb_Po_add : fb_M := (⟨"FrameBackEnd$Processor", "add", "(I)V"⟩, prog_4_method_15_code, 3, none, 1)
abbrev fb_Po_shift : fb_M := (⟨"FrameBackEnd$Processor", "shift", "(II)V"⟩, prog_4_method_16_code, 3, none, 1)
abbrev fb_Po_compare : fb_M := (⟨"FrameBackEnd$Processor", "compare", "(II)V"⟩, prog_4_method_17_code, 3, none, 0)
abbrev fb_Po_doBranch : fb_M := (⟨"FrameBackEnd$Processor", "doBranch", "(I)V"⟩, prog_4_method_18_code, 3, none, 1)
abbrev fb_Po_branches : fb_M := (⟨"FrameBackEnd$Processor", "branches", "(I)Z"⟩, prog_4_method_19_code, 2, (some .boolean), 0)
abbrev fb_Po_doJump : fb_M := (⟨"FrameBackEnd$Processor", "doJump", "(I)V"⟩, prog_4_method_20_code, 4, none, 1)
abbrev fb_Po_doAlone : fb_M := (⟨"FrameBackEnd$Processor", "doAlone", "(I)V"⟩, prog_4_method_21_code, 2, none, 1)
abbrev fb_Po_doReturn : fb_M := (⟨"FrameBackEnd$Processor", "doReturn", "()V"⟩, prog_4_method_22_code, 1, none, 0)
abbrev fb_Po_putOut : fb_M := (⟨"FrameBackEnd$Processor", "putOut", "()V"⟩, prog_4_method_23_code, 1, none, 0)
abbrev fb_Pr_addFunction : fb_M := (⟨"FrameBackEnd$Program", "addFunction", "()I"⟩, prog_5_method_2_code, 1, (some .int), 0)
abbrev fb_Pr_addVariable : fb_M := (⟨"FrameBackEnd$Program", "addVariable", "(I)I"⟩, prog_5_method_3_code, 4, (some .int), 0)
abbrev fb_Pr_addInstruction : fb_M := (⟨"FrameBackEnd$Program", "addInstruction", "(IIII)I"⟩, prog_5_method_4_code, 6, (some .int), 2)
abbrev fb_Pr_suits : fb_M := (⟨"FrameBackEnd$Program", "suits", "(II)Z"⟩, prog_5_method_5_code, 4, (some .boolean), 1)
abbrev fb_Pr_isScalar : fb_M := (⟨"FrameBackEnd$Program", "isScalar", "(I)Z"⟩, prog_5_method_6_code, 1, (some .boolean), 0)
abbrev fb_Pr_hasFunction : fb_M := (⟨"FrameBackEnd$Program", "hasFunction", "(I)Z"⟩, prog_5_method_7_code, 2, (some .boolean), 0)
abbrev fb_Pr_hasInstruction : fb_M := (⟨"FrameBackEnd$Program", "hasInstruction", "(II)Z"⟩, prog_5_method_8_code, 3, (some .boolean), 1)
abbrev fb_Pr_sizeOf : fb_M := (⟨"FrameBackEnd$Program", "sizeOf", "(II)I"⟩, prog_5_method_9_code, 4, (some .int), 0)
abbrev fb_Pr_frameSizeOf : fb_M := (⟨"FrameBackEnd$Program", "frameSizeOf", "(I)I"⟩, prog_5_method_10_code, 4, (some .int), 0)
abbrev fb_Pr_hasTarget : fb_M := (⟨"FrameBackEnd$Program", "hasTarget", "(I)Z"⟩, prog_5_method_11_code, 2, (some .boolean), 0)
abbrev fb_Pr_targetOf : fb_M := (⟨"FrameBackEnd$Program", "targetOf", "(I)I"⟩, prog_5_method_12_code, 2, (some .int), 0)
abbrev fb_Pr_goalOf : fb_M := (⟨"FrameBackEnd$Program", "goalOf", "(I)I"⟩, prog_5_method_13_code, 2, (some .int), 1)
abbrev fb_Pr_isWhole : fb_M := (⟨"FrameBackEnd$Program", "isWhole", "()Z"⟩, prog_5_method_14_code, 3, (some .boolean), 0)
abbrev fb_Pr_hasAllTargets : fb_M := (⟨"FrameBackEnd$Program", "hasAllTargets", "()Z"⟩, prog_5_method_15_code, 2, (some .boolean), 2)
abbrev fb_Pr_hasAllCallees : fb_M := (⟨"FrameBackEnd$Program", "hasAllCallees", "()Z"⟩, prog_5_method_16_code, 2, (some .boolean), 1)
abbrev fb_Ja_fill : fb_M := (⟨"java/util/Arrays", "fill", "([II)V"⟩, prog_9_method_103_code, 4, none, 0)
end
section
/-! A small machine over the kit's: the state is numbers (Int), the cells have fixed places; a judgement fb_V that goes by rows. -/
-- the numbers of a state: scalar fields (32 * cell + place), arrays (cell, index)
abbrev fb_S : Type := (Nat → Int) × (Nat → Int → Int)
def fb_sg (σ : fb_S) (k : Nat) (v : Int) : fb_S := (fun j => if j = k then v else σ.1 j, σ.2)
def fb_sm (σ : fb_S) (k : Nat) (i : Int) (v : Int) : fb_S := (σ.1, fun a j => if a = k ∧ j = i then v else σ.2 a j)
theorem fb_sg1 (σ : fb_S) (k : Nat) (v : Int) (j : Nat) : (fb_sg σ k v).1 j = if j = k then v else σ.1 j := rfl
theorem fb_sg2 (σ : fb_S) (k : Nat) (v : Int) : (fb_sg σ k v).2 = σ.2 := rfl
theorem fb_sm1 (σ : fb_S) (k : Nat) (i v : Int) : (fb_sm σ k i v).1 = σ.1 := rfl
theorem fb_sm2 (σ : fb_S) (k : Nat) (i v : Int) (a : Nat) (j : Int) : (fb_sm σ k i v).2 a j = if a = k ∧ j = i then v else σ.2 a j := rfl
-- a value: a number, or a cell by its place
abbrev fb_X : Type := Int ⊕ Nat
def fb_cv (ad : Nat → Nat) : fb_X → Value
  | .inl x => .int (Int32.ofInt x)
  | .inr k => .ref (ad k)
-- launch, classes, addresses, first new address, the array classes (int, boolean, int[])
abbrev fb_E : Type := Launch × va_G × (Nat → Nat) × Nat × ClassId × ClassId × ClassId
def fb_fv (ad : Nat → Nat) (σ : fb_S) (k i : Nat) (d : Option Nat) : Value := match d with
  | some c => .ref (ad c)
  | none => .int (Int32.ofInt (σ.1 (32 * k + i)))
def fb_r0 (r : List (Option Nat)) : Nat := (r.headD none).getD 0
def fb_en (E : fb_E) (σ : fb_S) (k : Nat) (q : fb_Sh) : va_E := match q with
  | (0, ci, fds) => .inr (ci, fds.mapIdx (fb_fv E.2.2.1 σ k))
  | (1, n, _) => .inl (E.2.2.2.2.1, n, .inl (fun j : Nat => Int32.ofInt (σ.2 k j)))
  | (2, n, _) => .inl (E.2.2.2.2.2.1, n, .inl (fun j : Nat => Int32.ofInt (σ.2 k j)))
  | (_, n, r) => .inl (E.2.2.2.2.2.2, n, .inr (.inr (.inr (.inr (fun i : Nat => some (E.2.2.1 (fb_r0 r + i)))))))
def fb_W (E : fb_E) (σ : fb_S) : va_W := fb_shp.mapIdx (fun k q => (E.2.2.1 k, fb_en E σ k q))
theorem fb_W_at {E : fb_E} {σ : fb_S} {k : Nat} {q : fb_Sh} (h : fb_shp[k]? = some q) : (fb_W E σ)[k]? = some (E.2.2.1 k, fb_en E σ k q) := by
  simp [fb_W, List.getElem?_mapIdx, h]
theorem fb_W_of {E : fb_E} {σ : fb_S} {k : Nat} {x : Nat × va_E} (h : (fb_W E σ)[k]? = some x) : ∃ q, fb_shp[k]? = some q ∧ x = (E.2.2.1 k, fb_en E σ k q) := by
  rw [fb_W, List.getElem?_mapIdx] at h
  cases hq : fb_shp[k]? with
  | none => rw [hq] at h; cases h
  | some q => rw [hq] at h; exact ⟨q, rfl, (Option.some.inj h).symm⟩
theorem fb_lt {k : Nat} {q : fb_Sh} (h : fb_shp[k]? = some q) : k < fb_N := (List.getElem?_eq_some_iff.mp h).1
theorem fb_W_set {E : fb_E} {σ σ' : fb_S} {k : Nat} {q : fb_Sh} {e : va_E} (hk : fb_shp[k]? = some q) (he : fb_en E σ' k q = e) (ho : ∀ (j : Nat) (q' : fb_Sh), j ≠ k → fb_shp[j]? = some q' → fb_en E σ' j q' = fb_en E σ j q') : (fb_W E σ).set k (E.2.2.1 k, e) = fb_W E σ' := by
  apply List.ext_getElem?
  intro j
  by_cases hj : j = k
  · subst hj
    rw [fb_W_at hk, he, List.getElem?_set_self]
    simp only [fb_W, List.length_mapIdx]
    exact (List.getElem?_eq_some_iff.mp hk).1
  · rw [List.getElem?_set_ne (Ne.symm hj)]
    cases hq : fb_shp[j]? with
    | none => simp [fb_W, List.getElem?_mapIdx, hq]
    | some q' => rw [fb_W_at hq, fb_W_at hq, ho j q' hj hq]
theorem fb_fds_len {k ci : Nat} {fds : List (Option Nat)} (h : fb_shp[k]? = some (0, ci, fds)) : fds.length ≤ 32 := by
  have h1 := List.mem_of_getElem? h
  have h2 : ∀ q ∈ fb_shp, q.2.2.length ≤ 32 := by decide +kernel
  exact h2 _ h1
theorem fb_fv_other {ad : Nat → Nat} {σ : fb_S} {k j i : Nat} {v : Int} {fds : List (Option Nat)} (hi : i < 32) (hl : fds.length ≤ 32) (hj : j ≠ k) : fds.mapIdx (fb_fv ad (fb_sg σ (32 * k + i) v) j) = fds.mapIdx (fb_fv ad σ j) := by
  apply List.ext_getElem?
  intro t
  rw [List.getElem?_mapIdx, List.getElem?_mapIdx]
  cases hd : fds[t]? with
  | none => rfl
  | some d =>
    have ht := (List.getElem?_eq_some_iff.mp hd).1
    cases d with
    | some c => rfl
    | none => simp only [Option.map_some, fb_fv, fb_sg1]; rw [if_neg (by omega)]
theorem fb_en_other_g {E : fb_E} {σ : fb_S} {k i j : Nat} {v : Int} {q : fb_Sh} (hi : i < 32) (hj : j ≠ k) (hq : fb_shp[j]? = some q) : fb_en E (fb_sg σ (32 * k + i) v) j q = fb_en E σ j q := by
  obtain ⟨a, n, r⟩ := q
  match a, hq with
  | 0, hq => simp only [fb_en]; rw [fb_fv_other hi (fb_fds_len hq) hj]
  | 1, _ => rfl
  | 2, _ => rfl
  | _ + 3, _ => rfl
theorem fb_set_g {E : fb_E} {σ : fb_S} {k i ci : Nat} {v : Int} {fds : List (Option Nat)} (hk : fb_shp[k]? = some (0, ci, fds)) (hi : fds[i]? = some none) : (fb_W E σ).set k (E.2.2.1 k, .inr (ci, (fds.mapIdx (fb_fv E.2.2.1 σ k)).set i (.int (Int32.ofInt v)))) = fb_W E (fb_sg σ (32 * k + i) v) := by
  have hl := fb_fds_len hk
  have hil := (List.getElem?_eq_some_iff.mp hi).1
  refine fb_W_set hk ?_ (fun j q' hj hq => fb_en_other_g (by omega) hj hq)
  simp only [fb_en]
  congr 2
  apply List.ext_getElem?
  intro t
  by_cases ht : t = i
  · subst ht
    rw [List.getElem?_set_self (by rw [List.length_mapIdx]; exact hil), List.getElem?_mapIdx, hi]
    simp [fb_fv, fb_sg1]
  · rw [List.getElem?_set_ne (Ne.symm ht), List.getElem?_mapIdx, List.getElem?_mapIdx]
    cases hd : fds[t]? with
    | none => rfl
    | some d =>
      cases d with
      | some c => rfl
      | none => simp only [Option.map_some, fb_fv, fb_sg1]; rw [if_neg (by omega)]
theorem fb_en_other_m {E : fb_E} {σ : fb_S} {k j : Nat} {i v : Int} {q : fb_Sh} (hj : j ≠ k) : fb_en E (fb_sm σ k i v) j q = fb_en E σ j q := by
  obtain ⟨a, n, r⟩ := q
  have h : (fb_sm σ k i v).2 j = σ.2 j := by
    funext t
    rw [fb_sm2, if_neg (fun h => hj h.1)]
  match a with
  | 0 => rfl
  | 1 => simp only [fb_en, h]
  | 2 => simp only [fb_en, h]
  | _ + 3 => rfl
theorem fb_upd {σ : fb_S} {k : Nat} {i v : Int} (h0 : 0 ≤ i) : (fun j : Nat => Int32.ofInt ((fb_sm σ k i v).2 k j)) = upd (fun j : Nat => Int32.ofInt (σ.2 k j)) i.toNat (Int32.ofInt v) := by
  funext j
  rw [fb_sm2]
  unfold upd
  by_cases h : j = i.toNat
  · rw [if_pos ⟨rfl, by omega⟩, if_pos h]
  · rw [if_neg (by rintro ⟨-, h2⟩; omega), if_neg h]
theorem fb_set_m {E : fb_E} {σ : fb_S} {k n : Nat} {i v : Int} {r : List (Option Nat)} (hk : fb_shp[k]? = some (1, n, r)) (h0 : 0 ≤ i) : (fb_W E σ).set k (E.2.2.1 k, .inl (E.2.2.2.2.1, n, .inl (upd (fun j : Nat => Int32.ofInt (σ.2 k j)) i.toNat (Int32.ofInt v)))) = fb_W E (fb_sm σ k i v) := by
  refine fb_W_set hk ?_ (fun j q' hj _ => fb_en_other_m hj)
  simp only [fb_en]
  rw [fb_upd h0]
theorem fb_set_z {E : fb_E} {σ : fb_S} {k n : Nat} {i v : Int} {r : List (Option Nat)} (hk : fb_shp[k]? = some (2, n, r)) (h0 : 0 ≤ i) : (fb_W E σ).set k (E.2.2.1 k, .inl (E.2.2.2.2.2.1, n, .inl (upd (fun j : Nat => Int32.ofInt (σ.2 k j)) i.toNat (Int32.ofInt v)))) = fb_W E (fb_sm σ k i v) := by
  refine fb_W_set hk ?_ (fun j q' hj _ => fb_en_other_m hj)
  simp only [fb_en]
  rw [fb_upd h0]
end
section
/-! numbers in the range of an int -/
theorem fb_ti {x : Int} (h1 : -2147483648 ≤ x) (h2 : x < 2147483648) : (Int32.ofInt x).toInt = x := Int32.toInt_ofInt_of_le (by omega) (by omega)
theorem fb_lt_iff {x y : Int} (hx : -2147483648 ≤ x ∧ x < 2147483648) (hy : -2147483648 ≤ y ∧ y < 2147483648) : Int32.ofInt x < Int32.ofInt y ↔ x < y := by
  rw [Int32.lt_iff_toInt_lt, fb_ti hx.1 hx.2, fb_ti hy.1 hy.2]
theorem fb_le_iff {x y : Int} (hx : -2147483648 ≤ x ∧ x < 2147483648) (hy : -2147483648 ≤ y ∧ y < 2147483648) : Int32.ofInt x ≤ Int32.ofInt y ↔ x ≤ y := by
  rw [Int32.le_iff_toInt_le, fb_ti hx.1 hx.2, fb_ti hy.1 hy.2]
theorem fb_eq_iff {x y : Int} (hx : -2147483648 ≤ x ∧ x < 2147483648) (hy : -2147483648 ≤ y ∧ y < 2147483648) : Int32.ofInt x = Int32.ofInt y ↔ x = y := by
  rw [← Int32.toInt_inj, fb_ti hx.1 hx.2, fb_ti hy.1 hy.2]
theorem fb_0 : Int32.ofInt 0 = 0 := rfl
theorem fb_in {i : Int} {n : Nat} (h0 : 0 ≤ i) (h1 : i < n) (hn : n < 2147483648) : vp_in (Int32.ofInt i) n ∧ (Int32.ofInt i).toNatClampNeg = i.toNat := by
  have e : (Int32.ofInt i).toInt = i := fb_ti (by omega) (by omega)
  have e2 : (Int32.ofInt i).toNatClampNeg = i.toNat := by rw [← Int32.toNat_toInt, e]
  refine ⟨vp_in_iff.mpr ?_, e2⟩
  rw [e]
  omega
theorem fb_len {k n : Nat} {a : Nat} {r : List (Option Nat)} (h : fb_shp[k]? = some (a, n, r)) : n < 2147483648 := by
  have h1 := List.mem_of_getElem? h
  have h2 : ∀ q ∈ fb_shp, q.2.1 < 2147483648 := by decide +kernel
  exact h2 _ h1
/-! the judgement -/
abbrev fb_A (E : fb_E) : Nat → Prop := fun q => E.2.2.2.1 ≤ q
def fb_ws (M : fb_M) : List Cond := .code M.1 M.2.1 M.2.2.1 M.2.2.2.1 :: fb_WA
def fb_rm (M : fb_M) : Room := { frames := M.2.2.2.2, cells := 0, slots := 0, locals := 40 * M.2.2.2.2 }
/-- the addresses: apart, new -/
def fb_H (E : fb_E) : Prop := (∀ i j, i < fb_N → j < fb_N → E.2.2.1 i = E.2.2.1 j → i = j) ∧ ∀ i, i < fb_N → E.2.2.2.1 ≤ E.2.2.1 i
abbrev fb_ty (E : fb_E) : List (ClassId × FieldType) := [(E.2.2.2.2.1, .int), (E.2.2.2.2.2.1, .boolean)]
/-- what holds of the tables -/
def fb_K (E : fb_E) (U : State) : Prop := va_K E.2.1 fb_cl (fb_ty E) U ∧ ArrOfT U E.2.2.2.2.2.2 (.array .int) ∧ (∀ w ∈ fb_NW, va_Nw w U) ∧ va_Z "FrameBackEnd" "SORTS" "[I" (.ref (E.2.2.1 99)) (fb_A E) U U.heap ∧ va_T .int (E.2.2.1 99) 48 (fun j => .int (Int32.ofInt (fb_sorts j))) (fb_A E) U U.heap
theorem fb_HD {E : fb_E} (h : fb_H E) (σ : fb_S) : va_D (fb_A E) (fb_W E σ) := by
  refine ⟨fun i j x y hi hj hxy => ?_, fun k q hk => ?_⟩
  · obtain ⟨q1, a1, rfl⟩ := fb_W_of hi
    obtain ⟨q2, a2, rfl⟩ := fb_W_of hj
    exact h.1 i j (fb_lt a1) (fb_lt a2) hxy
  · obtain ⟨q1, a1, rfl⟩ := fb_W_of hk
    exact h.2 k (fb_lt a1)
/-- the end of a method -/
def fb_Q (E : fb_E) (M : fb_M) (Q : Int → fb_S → Prop) : Array Value → State → Outcome → State → Prop := match M.2.2.2.1 with
  | none => va_Qv (fun σ' : fb_S => Q 0 σ') (fun σ' t => va_P E.2.1 fb_cl (fb_W E σ') t.heap) (fb_A E)
  | some _ => va_Qi (fun (r : Int32) (u : Int × fb_S) => r = Int32.ofInt u.1 ∧ Q u.1 u.2) (fun u t => va_P E.2.1 fb_cl (fb_W E u.2) t.heap) (fb_A E)
def fb_L (E : fb_E) (la : Array Slot) (n : Nat) (ls : List fb_X) : Prop := la.size = n ∧ lv_wf la ∧ (∀ (i : Nat) (x : Int), ls[i]? = some (.inl x) → la[i]? = some (.val (.int (Int32.ofInt x)))) ∧ ∀ (i k : Nat), ls[i]? = some (.inr k) → k ≠ 999 → la[i]? = some (.val (.ref (E.2.2.1 k)))
def fb_C (E : fb_E) (M : fb_M) (p : Program) (s : State) (m : MethodId) (args : Array Value) (meth : Method) (c : Code) : Prop :=
  p.tables.exec = Jvm.exec ∧ c.code = M.2.1 ∧ meth.sig.returnType = M.2.2.2.1 ∧ c.maxLocals = M.2.2.1 ∧ s.vm.findClass M.1.cls = some m.cls ∧ (∀ w ∈ fb_ws M, w.before args s = true) ∧ meth.locks = false ∧ fb_H E ∧ fb_K E s
def fb_V (E : fb_E) (M : fb_M) (pc : Nat) (ls st : List fb_X) (σ : fb_S) (Q : Int → fb_S → Prop) : Prop :=
  ∀ (p : Program) (e : Env) (s : State) (m : MethodId) (args : Array Value) (below : List Frame) (meth : Method) (c : Code) (H : Heap) (locs : List Loc) (la : Array Slot),
    fb_C E M p s m args meth c → va_P E.2.1 fb_cl (fb_W E σ) H → va_S (fb_A E) s.heap H locs → fb_L E la M.2.2.1 ls →
    W p E.1 e (fb_rm M) s m args below meth c H locs 0 0 (MQ below (fb_Q E M Q) args s 0 0 (fb_A E)) (F0 m pc la (st.map (fb_cv E.2.2.1)))
/-! the locals -/
theorem fb_L.int {E : fb_E} {la : Array Slot} {n : Nat} {ls : List fb_X} (h : fb_L E la n ls) {i : Nat} {x : Int} (hi : ls[i]? = some (.inl x)) : la[i]? = some (.val (.int (Int32.ofInt x))) := h.2.2.1 i x hi
theorem fb_L.ref {E : fb_E} {la : Array Slot} {n : Nat} {ls : List fb_X} (h : fb_L E la n ls) {i k : Nat} (hi : ls[i]? = some (.inr k)) (hk : k ≠ 999) : la[i]? = some (.val (.ref (E.2.2.1 k))) := h.2.2.2 i k hi hk
def fb_one (E : fb_E) (ls : List fb_X) (i : Nat) : Option (Nat × Value) := match ls[i]? with
  | some (.inl x) => some (i, .int (Int32.ofInt x))
  | some (.inr k) => if k = 999 then none else some (i, .ref (E.2.2.1 k))
  | none => none
def fb_lv (E : fb_E) (ls : List fb_X) : List (Nat × Value) := (List.range ls.length).filterMap (fb_one E ls)
theorem fb_L.has {E : fb_E} {la : Array Slot} {n : Nat} {ls : List fb_X} (h : fb_L E la n ls) : lv_has la n (fb_lv E ls) := by
  refine ⟨h.1, h.2.1, fun q hq => ?_⟩
  obtain ⟨i, -, hi⟩ := List.mem_filterMap.mp hq
  unfold fb_one at hi
  split at hi
  · next x hx => cases hi; exact h.int hx
  · next k hk =>
    split at hi
    · cases hi
    · next hne => cases hi; exact h.ref hk hne
  · cases hi
theorem fb_L.stored {E : fb_E} {la : Array Slot} {n : Nat} {ls : List fb_X} {i : Nat} {w : fb_X} {v : Value} (hi : i < ls.length) (hv : fb_cv E.2.2.1 w = v) (h : lv_has la n ((i, v) :: (fb_lv E ls).filter (fun q => !(q.1 == i) && !(q.1 + 1 == i && q.2.category == 2)))) : fb_L E la n (ls.set i w) := by
  have key : ∀ (j : Nat) (x : Nat × Value), j ≠ i → fb_one E ls j = some x → x.2.category = 1 → la[x.1]? = some (.val x.2) := by
    intro j x hj hx hc
    have hx1 : x.1 = j := by
      unfold fb_one at hx
      split at hx
      · cases hx; rfl
      · split at hx
        · cases hx
        · cases hx; rfl
      · cases hx
    have hlt : j < ls.length := by
      unfold fb_one at hx
      split at hx
      · next hx2 => exact (List.getElem?_eq_some_iff.mp hx2).1
      · next hx2 => exact (List.getElem?_eq_some_iff.mp hx2).1
      · cases hx
    refine h.2.2 x (List.mem_cons_of_mem _ (List.mem_filter.mpr ⟨List.mem_filterMap.mpr ⟨j, List.mem_range.mpr hlt, hx⟩, ?_⟩))
    simp [hx1, hj, hc]
  refine ⟨h.1, h.2.1, fun j x hj => ?_, fun j k hj hk => ?_⟩
  · by_cases e : j = i
    · subst e
      rw [List.getElem?_set_self hi] at hj
      cases hj
      exact h.2.2 (j, _) (by rw [← hv]; exact List.mem_cons_self)
    · rw [List.getElem?_set_ne (Ne.symm e)] at hj
      exact key j (j, .int (Int32.ofInt x)) e (by simp [fb_one, hj]) rfl
  · by_cases e : j = i
    · subst e
      rw [List.getElem?_set_self hi] at hj
      cases hj
      exact h.2.2 (j, _) (by rw [← hv]; exact List.mem_cons_self)
    · rw [List.getElem?_set_ne (Ne.symm e)] at hj
      exact key j (j, .ref (E.2.2.1 k)) e (by simp [fb_one, hj, hk]) rfl
section FBR
variable {E : fb_E} {M : fb_M} {pc : Nat} {ls st : List fb_X} {σ : fb_S} {Q : Int → fb_S → Prop}
theorem fb_Q_mono {Q Q2 : Int → fb_S → Prop} (hq : ∀ r σ', Q r σ' → Q2 r σ') {a : Array Value} {s : State} {o : Outcome} {t : State} (h : fb_Q E M Q a s o t) : fb_Q E M Q2 a s o t := by
  obtain ⟨y, b, n, ret, h0⟩ := M
  cases ret with
  | none =>
    obtain ⟨⟨u, c1, c2, c3⟩, c4⟩ := h
    exact ⟨⟨u, c1, hq _ _ c2, c3⟩, c4⟩
  | some ty =>
    obtain ⟨⟨r, u, c1, ⟨c5, c2⟩, c3⟩, c4⟩ := h
    exact ⟨⟨r, u, c1, ⟨c5, hq _ _ c2⟩, c3⟩, c4⟩
theorem fb_mono {Q2 : Int → fb_S → Prop} (h : fb_V E M pc ls st σ Q) (hq : ∀ r σ', Q r σ' → Q2 r σ') : fb_V E M pc ls st σ Q2 := by
  intro p e s m args below meth c H locs la C hP hS hL T hT X
  obtain ⟨t, a, o, b1, b2, b3, b4⟩ := h p e s m args below meth c H locs la C hP hS hL T hT X
  exact ⟨t, a, o, b1, b2, fb_Q_mono hq b3, b4⟩
-- BINOPS
theorem fb_idiv {x y : Int} (hd : decode M.2.1 pc = .ok (.idiv, 1)) (hx : 0 ≤ x ∧ x < 2147483648) (hy : 0 < y ∧ y < 2147483648) (k : fb_V E M (pc + 1) ls (.inl (x / y) :: st) σ Q) : fb_V E M pc ls (.inl y :: .inl x :: st) σ Q := by
  intro p e s m args below meth c H locs la C hP hS hL
  have e1 : Int32.ofInt x / Int32.ofInt y = Int32.ofInt (x / y) := by
    have ex : (Int32.ofInt x).toInt = x := fb_ti (by omega) (by omega)
    have ey : (Int32.ofInt y).toInt = y := fb_ti (by omega) (by omega)
    have hb : 0 ≤ x / y := Int.ediv_nonneg hx.1 (by omega)
    have hc : x / y ≤ x := Int.ediv_le_self _ hx.1
    apply Int32.toInt_inj.mp
    rw [Int32.toInt_div_of_ne_right, ex, ey, fb_ti (by omega) (by omega), Int.tdiv_eq_ediv_of_nonneg hx.1]
    intro h
    have := congrArg Int32.toInt h
    rw [ey] at this
    have h2 : (-1 : Int32).toInt = -1 := by decide
    omega
  refine lv_idiv C.1 C.2.1 hd (fun h => ?_) ?_
  · have := congrArg Int32.toInt h
    rw [fb_ti (by omega) (by omega)] at this
    have h2 : (0 : Int32).toInt = 0 := by decide
    omega
  · rw [e1]; exact k p e s m args below meth c H locs la C hP hS hL
theorem fb_irem {x y : Int} (hd : decode M.2.1 pc = .ok (.irem, 1)) (hx : 0 ≤ x ∧ x < 2147483648) (hy : 0 < y ∧ y < 2147483648) (k : fb_V E M (pc + 1) ls (.inl (x % y) :: st) σ Q) : fb_V E M pc ls (.inl y :: .inl x :: st) σ Q := by
  intro p e s m args below meth c H locs la C hP hS hL
  have e1 : Int32.ofInt x / Int32.ofInt y = Int32.ofInt (x / y) := by
    have ex : (Int32.ofInt x).toInt = x := fb_ti (by omega) (by omega)
    have ey : (Int32.ofInt y).toInt = y := fb_ti (by omega) (by omega)
    have hb : 0 ≤ x / y := Int.ediv_nonneg hx.1 (by omega)
    have hc : x / y ≤ x := Int.ediv_le_self _ hx.1
    apply Int32.toInt_inj.mp
    rw [Int32.toInt_div_of_ne_right, ex, ey, fb_ti (by omega) (by omega), Int.tdiv_eq_ediv_of_nonneg hx.1]
    intro h
    have := congrArg Int32.toInt h
    rw [ey] at this
    have h2 : (-1 : Int32).toInt = -1 := by decide
    omega
  refine lv_irem C.1 C.2.1 hd (fun h => ?_) ?_
  · have := congrArg Int32.toInt h
    rw [fb_ti (by omega) (by omega)] at this
    have h2 : (0 : Int32).toInt = 0 := by decide
    omega
  · rw [e1, ← Int32.ofInt_mul, ← Int32.ofInt_sub]
    have e2 : x - x / y * y = x % y := by
      have := Int.emod_add_mul_ediv x y
      have h3 : x / y * y = y * (x / y) := Int.mul_comm _ _
      omega
    rw [e2]
    exact k p e s m args below meth c H locs la C hP hS hL
/-- a mask of the lowest n bits -/
theorem fb_mask (x : Int) (n : Nat) (hn : n < 31) : Int32.ofInt x &&& Int32.ofInt (2 ^ n - 1) = Int32.ofInt (x % 2 ^ n) := by
  apply Int32.toBitVec_inj.mp
  apply BitVec.eq_of_toNat_eq
  rw [Int32.toBitVec_and, BitVec.toNat_and, Int32.toBitVec_ofInt, Int32.toBitVec_ofInt, Int32.toBitVec_ofInt, BitVec.toNat_ofInt, BitVec.toNat_ofInt, BitVec.toNat_ofInt]
  have hp : (0 : Int) < 2 ^ n := Int.pow_pos (by decide)
  have hp2 : (2 : Int) ^ n ≤ 2 ^ 30 := by
    have : (2 : Nat) ^ n ≤ 2 ^ 30 := Nat.pow_le_pow_right (by decide) (by omega)
    exact_mod_cast this
  have e1 : (((2 : Int) ^ n - 1) % ((2 ^ 32 : Nat) : Int)).toNat = 2 ^ n - 1 := by
    rw [Int.emod_eq_of_lt (by omega) (by omega)]
    have : ((2 : Nat) ^ n : Int) = (2 : Int) ^ n := by norm_cast
    omega
  have e2 : ((x % 2 ^ n) % ((2 ^ 32 : Nat) : Int)).toNat = (x % 2 ^ n).toNat := by
    have h1 := Int.emod_nonneg x (by omega : (2 : Int) ^ n ≠ 0)
    have h2 := Int.emod_lt_of_pos x hp
    rw [Int.emod_eq_of_lt h1 (by omega)]
  rw [e1, e2, Nat.and_two_pow_sub_one_eq_mod]
  have hd : (2 : Int) ^ n ∣ ((2 ^ 32 : Nat) : Int) := by
    refine ⟨2 ^ (32 - n), ?_⟩
    rw [← Int.pow_add, show n + (32 - n) = 32 by omega]
    rfl
  have h3 : x % ((2 ^ 32 : Nat) : Int) % 2 ^ n = x % 2 ^ n := Int.emod_emod_of_dvd x hd
  have h4 := Int.emod_nonneg x (by decide : ((2 ^ 32 : Nat) : Int) ≠ 0)
  have h5 : ((x % ((2 ^ 32 : Nat) : Int)).toNat % 2 ^ n : Nat) = (x % ((2 ^ 32 : Nat) : Int) % 2 ^ n).toNat := by
    rw [Int.toNat_emod h4 (by omega)]
    congr 1
  rw [h5, h3]
theorem fb_iandM {x : Int} (n : Nat) (hn : n < 31) {mk : Int} (hm : mk = 2 ^ n - 1) (hd : decode M.2.1 pc = .ok (.iand, 1)) (k : fb_V E M (pc + 1) ls (.inl (x % 2 ^ n) :: st) σ Q) : fb_V E M pc ls (.inl mk :: .inl x :: st) σ Q := by
  intro p e s m args below meth c H locs la C hP hS hL
  subst hm
  refine lv_iand C.1 C.2.1 hd ?_
  rw [fb_mask x n hn]
  exact k p e s m args below meth c H locs la C hP hS hL
theorem fb_bits (f : BitVec 32 → BitVec 32 → BitVec 32) (g : Nat → Nat → Nat) (F : Int32 → Int32 → Int32) (hF : ∀ a b, (F a b).toBitVec = f a.toBitVec b.toBitVec) (hf : ∀ a b, (f a b).toNat = g a.toNat b.toNat) {x y : Int} (hx : 0 ≤ x ∧ x < 2147483648) (hy : 0 ≤ y ∧ y < 2147483648) : F (Int32.ofInt x) (Int32.ofInt y) = Int32.ofInt (g x.toNat y.toNat : Nat) := by
  apply Int32.toBitVec_inj.mp
  apply BitVec.eq_of_toNat_eq
  have h9 := (f (Int32.ofInt x).toBitVec (Int32.ofInt y).toBitVec).isLt
  rw [hf] at h9
  rw [hF, hf]
  rw [Int32.toBitVec_ofInt, Int32.toBitVec_ofInt, BitVec.toNat_ofInt, BitVec.toNat_ofInt] at h9 ⊢
  rw [Int32.toBitVec_ofInt, BitVec.toNat_ofInt]
  have e1 : (x % ((2 ^ 32 : Nat) : Int)).toNat = x.toNat := by rw [Int.emod_eq_of_lt hx.1 (by omega)]
  have e2 : (y % ((2 ^ 32 : Nat) : Int)).toNat = y.toNat := by rw [Int.emod_eq_of_lt hy.1 (by omega)]
  rw [e1, e2] at h9 ⊢
  rw [Int.emod_eq_of_lt (by omega) (by omega)]
  rfl
theorem fb_iand {x y : Int} (hd : decode M.2.1 pc = .ok (.iand, 1)) (hx : 0 ≤ x ∧ x < 2147483648) (hy : 0 ≤ y ∧ y < 2147483648) (k : fb_V E M (pc + 1) ls (.inl ((x.toNat &&& y.toNat : Nat) : Int) :: st) σ Q) : fb_V E M pc ls (.inl y :: .inl x :: st) σ Q := by
  intro p e s m args below meth c H locs la C hP hS hL
  refine lv_iand C.1 C.2.1 hd ?_
  rw [fb_bits (fun a b => a &&& b) (fun a b => a &&& b) (fun a b => a &&& b) (fun _ _ => rfl) (fun a b => BitVec.toNat_and a b) hx hy]
  exact k p e s m args below meth c H locs la C hP hS hL
theorem fb_ior {x y : Int} (hd : decode M.2.1 pc = .ok (.ior, 1)) (hx : 0 ≤ x ∧ x < 2147483648) (hy : 0 ≤ y ∧ y < 2147483648) (k : fb_V E M (pc + 1) ls (.inl ((x.toNat ||| y.toNat : Nat) : Int) :: st) σ Q) : fb_V E M pc ls (.inl y :: .inl x :: st) σ Q := by
  intro p e s m args below meth c H locs la C hP hS hL
  refine lv_ior C.1 C.2.1 hd ?_
  rw [fb_bits (fun a b => a ||| b) (fun a b => a ||| b) (fun a b => a ||| b) (fun _ _ => rfl) (fun a b => BitVec.toNat_or a b) hx hy]
  exact k p e s m args below meth c H locs la C hP hS hL
theorem fb_ixor {x y : Int} (hd : decode M.2.1 pc = .ok (.ixor, 1)) (hx : 0 ≤ x ∧ x < 2147483648) (hy : 0 ≤ y ∧ y < 2147483648) (k : fb_V E M (pc + 1) ls (.inl ((x.toNat ^^^ y.toNat : Nat) : Int) :: st) σ Q) : fb_V E M pc ls (.inl y :: .inl x :: st) σ Q := by
  intro p e s m args below meth c H locs la C hP hS hL
  refine lv_ixor C.1 C.2.1 hd ?_
  rw [fb_bits (fun a b => a ^^^ b) (fun a b => a ^^^ b) (fun a b => a ^^^ b) (fun _ _ => rfl) (fun a b => BitVec.toNat_xor a b) hx hy]
  exact k p e s m args below meth c H locs la C hP hS hL
theorem fb_amt : ∀ n : Nat, n < 32 → ((Int32.ofInt (n : Int) &&& 31).toBitVec.smod 32).toNat = n := by decide +kernel
theorem fb_pw : ∀ n : Nat, n < 31 → (Int32.ofInt (2 ^ n)).toBitVec.toNat = 2 ^ n := by decide +kernel
theorem fb_ishl {x y : Int} (hd : decode M.2.1 pc = .ok (.ishl, 1)) (hy : 0 ≤ y ∧ y < 31) (k : fb_V E M (pc + 1) ls (.inl (x * 2 ^ y.toNat) :: st) σ Q) : fb_V E M pc ls (.inl y :: .inl x :: st) σ Q := by
  intro p e s m args below meth c H locs la C hP hS hL
  refine lv_ishl C.1 C.2.1 hd ?_
  have e1 : Int32.ofInt x <<< (Int32.ofInt y &&& 31) = Int32.ofInt (x * 2 ^ y.toNat) := by
    have hn : y = ((y.toNat : Nat) : Int) := by omega
    have h1 := fb_amt y.toNat (by omega)
    rw [← hn] at h1
    rw [Int32.ofInt_mul]
    apply Int32.toBitVec_inj.mp
    apply BitVec.eq_of_toNat_eq
    rw [pk_shl _ _ y.toNat h1, Int32.toBitVec_mul, BitVec.toNat_mul, fb_pw y.toNat (by omega)]
  rw [e1]
  exact k p e s m args below meth c H locs la C hP hS hL
theorem fb_ishr {x y : Int} (hd : decode M.2.1 pc = .ok (.ishr, 1)) (hx : -2147483648 ≤ x ∧ x < 2147483648) (hy : 0 ≤ y ∧ y < 31) (k : fb_V E M (pc + 1) ls (.inl (x / 2 ^ y.toNat) :: st) σ Q) : fb_V E M pc ls (.inl y :: .inl x :: st) σ Q := by
  intro p e s m args below meth c H locs la C hP hS hL
  refine lv_ishr C.1 C.2.1 hd ?_
  have e1 : Int32.ofInt x >>> (Int32.ofInt y &&& 31) = Int32.ofInt (x / 2 ^ y.toNat) := by
    have hn : y = ((y.toNat : Nat) : Int) := by omega
    have h1 := fb_amt y.toNat (by omega)
    rw [← hn] at h1
    apply Int32.toInt_inj.mp
    rw [pk_shr _ _ y.toNat h1, fb_ti hx.1 hx.2, Int.shiftRight_eq_div_pow]
    have hp : (0 : Int) < 2 ^ y.toNat := Int.pow_pos (by decide)
    have h2 : x / 2 ^ y.toNat < 2147483648 := by
      apply Int.ediv_lt_of_lt_mul hp
      have : (1 : Int) ≤ 2 ^ y.toNat := hp
      have := Int.mul_le_mul_of_nonneg_left this (by decide : (0 : Int) ≤ 2147483648)
      omega
    have h3 : -2147483648 ≤ x / 2 ^ y.toNat := by
      apply Int.le_ediv_of_mul_le hp
      have : (1 : Int) ≤ 2 ^ y.toNat := hp
      have := Int.mul_le_mul_of_nonneg_left this (by decide : (0 : Int) ≤ 2147483648)
      omega
    rw [fb_ti h3 h2]
    norm_cast
  rw [e1]
  exact k p e s m args below meth c H locs la C hP hS hL
end FBR
end
section
section FBO
variable {E : fb_E} {M : fb_M} {pc : Nat} {ls st : List fb_X} {σ : fb_S} {Q : Int → fb_S → Prop}
theorem fb_iadd {x y : Int} (hd : decode M.2.1 pc = .ok (.iadd, 1)) (k : fb_V E M (pc + 1) ls (.inl (x + y) :: st) σ Q) : fb_V E M pc ls (.inl y :: .inl x :: st) σ Q := by
  intro p e s m args below meth c H locs la C hP hS hL
  refine lv_iadd C.1 C.2.1 hd ?_
  rw [← Int32.ofInt_add]
  exact k p e s m args below meth c H locs la C hP hS hL
theorem fb_isub {x y : Int} (hd : decode M.2.1 pc = .ok (.isub, 1)) (k : fb_V E M (pc + 1) ls (.inl (x - y) :: st) σ Q) : fb_V E M pc ls (.inl y :: .inl x :: st) σ Q := by
  intro p e s m args below meth c H locs la C hP hS hL
  refine lv_isub C.1 C.2.1 hd ?_
  rw [← Int32.ofInt_sub]
  exact k p e s m args below meth c H locs la C hP hS hL
theorem fb_imul {x y : Int} (hd : decode M.2.1 pc = .ok (.imul, 1)) (k : fb_V E M (pc + 1) ls (.inl (x * y) :: st) σ Q) : fb_V E M pc ls (.inl y :: .inl x :: st) σ Q := by
  intro p e s m args below meth c H locs la C hP hS hL
  refine lv_imul C.1 C.2.1 hd ?_
  rw [← Int32.ofInt_mul]
  exact k p e s m args below meth c H locs la C hP hS hL
theorem fb_ineg {x : Int} (hd : decode M.2.1 pc = .ok (.ineg, 1)) (k : fb_V E M (pc + 1) ls (.inl (-x) :: st) σ Q) : fb_V E M pc ls (.inl x :: st) σ Q := by
  intro p e s m args below meth c H locs la C hP hS hL
  refine lv_ineg C.1 C.2.1 hd ?_
  rw [← Int32.ofInt_neg]
  exact k p e s m args below meth c H locs la C hP hS hL
theorem fb_cat (ad : Nat → Nat) (v : fb_X) : (fb_cv ad v).category = 1 := by cases v <;> rfl
theorem fb_rest0 (ad : Nat → Nat) (st : List fb_X) : ((st.map (fb_cv ad)).map fun v => v.category).sum = st.length := by
  induction st with
  | nil => rfl
  | cons v t ih =>
    simp only [List.map_cons, List.sum_cons, List.length_cons, fb_cat]
    rw [ih]; omega
theorem fb_dup {v : fb_X} (hd : decode M.2.1 pc = .ok (.dup, 1)) (k : fb_V E M (pc + 1) ls (v :: v :: st) σ Q) : fb_V E M pc ls (v :: st) σ Q := by
  intro p e s m args below meth c H locs la C hP hS hL
  exact lv_dup C.1 C.2.1 hd (fb_cat _ v) (k p e s m args below meth c H locs la C hP hS hL)
theorem fb_pop {v : fb_X} (hd : decode M.2.1 pc = .ok (.pop, 1)) (k : fb_V E M (pc + 1) ls st σ Q) : fb_V E M pc ls (v :: st) σ Q := by
  intro p e s m args below meth c H locs la C hP hS hL
  exact lv_pop C.1 C.2.1 hd (fb_cat _ v) (k p e s m args below meth c H locs la C hP hS hL)
theorem fb_dup_x1 {v w : fb_X} (hd : decode M.2.1 pc = .ok (.dup_x1, 1)) (k : fb_V E M (pc + 1) ls (v :: w :: v :: st) σ Q) : fb_V E M pc ls (v :: w :: st) σ Q := by
  intro p e s m args below meth c H locs la C hP hS hL
  exact lv_dup_x1 C.1 C.2.1 hd (fb_cat _ v) (fb_cat _ w) (k p e s m args below meth c H locs la C hP hS hL)
theorem fb_dup_x2 {v w z : fb_X} (hd : decode M.2.1 pc = .ok (.dup_x2, 1)) (k : fb_V E M (pc + 1) ls (v :: w :: z :: v :: st) σ Q) : fb_V E M pc ls (v :: w :: z :: st) σ Q := by
  intro p e s m args below meth c H locs la C hP hS hL
  exact lv_dup_x2 C.1 C.2.1 hd (fb_cat _ v) (fb_cat _ w) (fb_cat _ z) (k p e s m args below meth c H locs la C hP hS hL)
theorem fb_dup2 {v w : fb_X} (hd : decode M.2.1 pc = .ok (.dup2, 1)) (k : fb_V E M (pc + 1) ls (v :: w :: v :: w :: st) σ Q) : fb_V E M pc ls (v :: w :: st) σ Q := by
  intro p e s m args below meth c H locs la C hP hS hL
  exact lv_dup2_11 C.1 C.2.1 hd (fb_cat _ v) (fb_cat _ w) (k p e s m args below meth c H locs la C hP hS hL)
theorem fb_iconst {n : Int} (hd : decode M.2.1 pc = .ok (.iconst n, 1)) (k : fb_V E M (pc + 1) ls (.inl n :: st) σ Q) : fb_V E M pc ls st σ Q := by
  intro p e s m args below meth c H locs la C hP hS hL
  exact lv_iconst C.1 C.2.1 hd rfl (k p e s m args below meth c H locs la C hP hS hL)
theorem fb_bipush {n : Int} (hd : decode M.2.1 pc = .ok (.bipush n, 2)) (hn : (Int8.ofInt n).toInt32 = Int32.ofInt n) (k : fb_V E M (pc + 2) ls (.inl n :: st) σ Q) : fb_V E M pc ls st σ Q := by
  intro p e s m args below meth c H locs la C hP hS hL
  exact lv_bipush C.1 C.2.1 hd hn (k p e s m args below meth c H locs la C hP hS hL)
theorem fb_sipush {n : Int} (hd : decode M.2.1 pc = .ok (.sipush n, 3)) (hn : (Int16.ofInt n).toInt32 = Int32.ofInt n) (k : fb_V E M (pc + 3) ls (.inl n :: st) σ Q) : fb_V E M pc ls st σ Q := by
  intro p e s m args below meth c H locs la C hP hS hL
  exact lv_sipush C.1 C.2.1 hd hn (k p e s m args below meth c H locs la C hP hS hL)
theorem fb_ldc {i : Nat} {n : Int} (hd : decode M.2.1 pc = .ok (.ldc i, 2)) (hw : Cond.constant M.1.cls i (Int32.ofInt n) ∈ fb_WA) (k : fb_V E M (pc + 2) ls (.inl n :: st) σ Q) : fb_V E M pc ls st σ Q := by
  intro p e s m args below meth c H locs la C hP hS hL
  exact lv_ldc C.1 C.2.1 C.2.2.2.2.1 (C.2.2.2.2.2.1 _ (List.mem_cons_of_mem _ hw)) hd (k p e s m args below meth c H locs la C hP hS hL)
theorem fb_iload {i : Nat} {x : Int} (hd : decode M.2.1 pc = .ok (.iload i, 2)) (hl : ls[i]? = some (.inl x)) (k : fb_V E M (pc + 2) ls (.inl x :: st) σ Q) : fb_V E M pc ls st σ Q := by
  intro p e s m args below meth c H locs la C hP hS hL
  exact lv_iload C.1 C.2.1 hd (hL.int hl) (k p e s m args below meth c H locs la C hP hS hL)
theorem fb_iload_n {i : Fin 4} {x : Int} (hd : decode M.2.1 pc = .ok (.iload_n i, 1)) (hl : ls[(i : Nat)]? = some (.inl x)) (k : fb_V E M (pc + 1) ls (.inl x :: st) σ Q) : fb_V E M pc ls st σ Q := by
  intro p e s m args below meth c H locs la C hP hS hL
  exact lv_iload_n C.1 C.2.1 hd rfl (hL.int hl) (k p e s m args below meth c H locs la C hP hS hL)
theorem fb_aload {i j : Nat} (hd : decode M.2.1 pc = .ok (.aload i, 2)) (hl : ls[i]? = some (.inr j)) (hj : j ≠ 999) (k : fb_V E M (pc + 2) ls (.inr j :: st) σ Q) : fb_V E M pc ls st σ Q := by
  intro p e s m args below meth c H locs la C hP hS hL
  exact lv_aload C.1 C.2.1 hd (hL.ref hl hj) (k p e s m args below meth c H locs la C hP hS hL)
theorem fb_aload_n {i : Fin 4} {j : Nat} (hd : decode M.2.1 pc = .ok (.aload_n i, 1)) (hl : ls[(i : Nat)]? = some (.inr j)) (hj : j ≠ 999) (k : fb_V E M (pc + 1) ls (.inr j :: st) σ Q) : fb_V E M pc ls st σ Q := by
  intro p e s m args below meth c H locs la C hP hS hL
  exact lv_aload_n C.1 C.2.1 hd rfl (hL.ref hl hj) (k p e s m args below meth c H locs la C hP hS hL)
theorem fb_istore {i : Nat} {x : Int} {ls' : List fb_X} (hd : decode M.2.1 pc = .ok (.istore i, 2)) (hi : Nat.ble (i + 1) ls.length = true) (hm : ls.length = M.2.2.1) (hl : ls.set i (.inl x) = ls') (k : fb_V E M (pc + 2) ls' st σ Q) : fb_V E M pc ls (.inl x :: st) σ Q := by
  intro p e s m args below meth c H locs la C hP hS hL
  subst hl
  have hi := Nat.le_of_ble_eq_true hi
  exact lv_istore C.1 C.2.1 hd hL.has (by omega) rfl (fun la' h => k p e s m args below meth c H locs la' C hP hS (fb_L.stored (w := .inl x) hi rfl h))
theorem fb_istore_n {i : Fin 4} {x : Int} {ls' : List fb_X} (hd : decode M.2.1 pc = .ok (.istore_n i, 1)) (hi : Nat.ble ((i : Nat) + 1) ls.length = true) (hm : ls.length = M.2.2.1) (hl : ls.set (i : Nat) (.inl x) = ls') (k : fb_V E M (pc + 1) ls' st σ Q) : fb_V E M pc ls (.inl x :: st) σ Q := by
  intro p e s m args below meth c H locs la C hP hS hL
  subst hl
  have hi := Nat.le_of_ble_eq_true hi
  exact lv_istore_n C.1 C.2.1 hd rfl hL.has (by omega) rfl (fun la' h => k p e s m args below meth c H locs la' C hP hS (fb_L.stored (w := .inl x) hi rfl h))
theorem fb_astore {i : Nat} {x : Nat} {ls' : List fb_X} (hd : decode M.2.1 pc = .ok (.astore i, 2)) (hi : Nat.ble (i + 1) ls.length = true) (hm : ls.length = M.2.2.1) (hl : ls.set i (.inr x) = ls') (k : fb_V E M (pc + 2) ls' st σ Q) : fb_V E M pc ls (.inr x :: st) σ Q := by
  intro p e s m args below meth c H locs la C hP hS hL
  subst hl
  have hi := Nat.le_of_ble_eq_true hi
  exact lv_astore C.1 C.2.1 hd hL.has (by omega) rfl (fun la' h => k p e s m args below meth c H locs la' C hP hS (fb_L.stored (w := .inr x) hi rfl h))
theorem fb_astore_n {i : Fin 4} {x : Nat} {ls' : List fb_X} (hd : decode M.2.1 pc = .ok (.astore_n i, 1)) (hi : Nat.ble ((i : Nat) + 1) ls.length = true) (hm : ls.length = M.2.2.1) (hl : ls.set (i : Nat) (.inr x) = ls') (k : fb_V E M (pc + 1) ls' st σ Q) : fb_V E M pc ls (.inr x :: st) σ Q := by
  intro p e s m args below meth c H locs la C hP hS hL
  subst hl
  have hi := Nat.le_of_ble_eq_true hi
  exact lv_astore_n C.1 C.2.1 hd rfl hL.has (by omega) rfl (fun la' h => k p e s m args below meth c H locs la' C hP hS (fb_L.stored (w := .inr x) hi rfl h))
theorem fb_iinc {i : Nat} {n x : Int} {ls' : List fb_X} (hd : decode M.2.1 pc = .ok (.iinc i n, 3)) (hx : ls[i]? = some (.inl x)) (hm : ls.length = M.2.2.1) (hl : ls.set i (.inl (x + n)) = ls') (k : fb_V E M (pc + 3) ls' st σ Q) : fb_V E M pc ls st σ Q := by
  intro p e s m args below meth c H locs la C hP hS hL
  subst hl
  have hi := (List.getElem?_eq_some_iff.mp hx).1
  have hmem : (i, Value.int (Int32.ofInt x)) ∈ fb_lv E ls := List.mem_filterMap.mpr ⟨i, List.mem_range.mpr hi, by simp [fb_one, hx]⟩
  obtain ⟨q, hq⟩ := List.getElem?_of_mem hmem
  exact lv_iinc C.1 C.2.1 hd hL.has hq (Int32.ofInt_add x n).symm (by omega) rfl (fun la' h => k p e s m args below meth c H locs la' C hP hS (fb_L.stored (w := .inl (x + n)) hi rfl h))
theorem fb_if_eq {x : Int} {off : Int} {tgt : Nat} (hd : decode M.2.1 pc = .ok (.ifCond .eq off, 3)) (ht : (pc : Int) + off = (tgt : Int)) (hx : -2147483648 ≤ x ∧ x < 2147483648) (kt : x = 0 → fb_V E M tgt ls st σ Q) (kf : ¬ x = 0 → fb_V E M (pc + 3) ls st σ Q) : fb_V E M pc ls (.inl x :: st) σ Q := by
  intro p e s m args below meth c H locs la C hP hS hL
  exact lv_if_eq C.1 C.2.1 hd ht (fun h => kt ((fun h => (fb_eq_iff hx (by decide)).mp h) h) p e s m args below meth c H locs la C hP hS hL) (fun h => kf ((fun h => mt (fb_eq_iff hx (by decide)).mpr h) h) p e s m args below meth c H locs la C hP hS hL)
theorem fb_if_ne {x : Int} {off : Int} {tgt : Nat} (hd : decode M.2.1 pc = .ok (.ifCond .ne off, 3)) (ht : (pc : Int) + off = (tgt : Int)) (hx : -2147483648 ≤ x ∧ x < 2147483648) (kt : ¬ x = 0 → fb_V E M tgt ls st σ Q) (kf : x = 0 → fb_V E M (pc + 3) ls st σ Q) : fb_V E M pc ls (.inl x :: st) σ Q := by
  intro p e s m args below meth c H locs la C hP hS hL
  exact lv_if_ne C.1 C.2.1 hd ht (fun h => kt ((fun h => mt (fb_eq_iff hx (by decide)).mpr h) h) p e s m args below meth c H locs la C hP hS hL) (fun h => kf ((fun h => (fb_eq_iff hx (by decide)).mp h) h) p e s m args below meth c H locs la C hP hS hL)
theorem fb_if_lt {x : Int} {off : Int} {tgt : Nat} (hd : decode M.2.1 pc = .ok (.ifCond .lt off, 3)) (ht : (pc : Int) + off = (tgt : Int)) (hx : -2147483648 ≤ x ∧ x < 2147483648) (kt : x < 0 → fb_V E M tgt ls st σ Q) (kf : ¬ x < 0 → fb_V E M (pc + 3) ls st σ Q) : fb_V E M pc ls (.inl x :: st) σ Q := by
  intro p e s m args below meth c H locs la C hP hS hL
  exact lv_if_lt C.1 C.2.1 hd ht (fun h => kt ((fun h => (fb_lt_iff hx (by decide)).mp h) h) p e s m args below meth c H locs la C hP hS hL) (fun h => kf ((fun h => mt (fb_lt_iff hx (by decide)).mpr h) h) p e s m args below meth c H locs la C hP hS hL)
theorem fb_if_ge {x : Int} {off : Int} {tgt : Nat} (hd : decode M.2.1 pc = .ok (.ifCond .ge off, 3)) (ht : (pc : Int) + off = (tgt : Int)) (hx : -2147483648 ≤ x ∧ x < 2147483648) (kt : 0 ≤ x → fb_V E M tgt ls st σ Q) (kf : ¬ 0 ≤ x → fb_V E M (pc + 3) ls st σ Q) : fb_V E M pc ls (.inl x :: st) σ Q := by
  intro p e s m args below meth c H locs la C hP hS hL
  exact lv_if_ge C.1 C.2.1 hd ht (fun h => kt ((fun h => (fb_le_iff (by decide) hx).mp h) h) p e s m args below meth c H locs la C hP hS hL) (fun h => kf ((fun h => mt (fb_le_iff (by decide) hx).mpr h) h) p e s m args below meth c H locs la C hP hS hL)
theorem fb_if_gt {x : Int} {off : Int} {tgt : Nat} (hd : decode M.2.1 pc = .ok (.ifCond .gt off, 3)) (ht : (pc : Int) + off = (tgt : Int)) (hx : -2147483648 ≤ x ∧ x < 2147483648) (kt : 0 < x → fb_V E M tgt ls st σ Q) (kf : ¬ 0 < x → fb_V E M (pc + 3) ls st σ Q) : fb_V E M pc ls (.inl x :: st) σ Q := by
  intro p e s m args below meth c H locs la C hP hS hL
  exact lv_if_gt C.1 C.2.1 hd ht (fun h => kt ((fun h => (fb_lt_iff (by decide) hx).mp h) h) p e s m args below meth c H locs la C hP hS hL) (fun h => kf ((fun h => mt (fb_lt_iff (by decide) hx).mpr h) h) p e s m args below meth c H locs la C hP hS hL)
theorem fb_if_le {x : Int} {off : Int} {tgt : Nat} (hd : decode M.2.1 pc = .ok (.ifCond .le off, 3)) (ht : (pc : Int) + off = (tgt : Int)) (hx : -2147483648 ≤ x ∧ x < 2147483648) (kt : x ≤ 0 → fb_V E M tgt ls st σ Q) (kf : ¬ x ≤ 0 → fb_V E M (pc + 3) ls st σ Q) : fb_V E M pc ls (.inl x :: st) σ Q := by
  intro p e s m args below meth c H locs la C hP hS hL
  exact lv_if_le C.1 C.2.1 hd ht (fun h => kt ((fun h => (fb_le_iff hx (by decide)).mp h) h) p e s m args below meth c H locs la C hP hS hL) (fun h => kf ((fun h => mt (fb_le_iff hx (by decide)).mpr h) h) p e s m args below meth c H locs la C hP hS hL)
theorem fb_icmp_eq {x y : Int} {off : Int} {tgt : Nat} (hd : decode M.2.1 pc = .ok (.if_icmp .eq off, 3)) (ht : (pc : Int) + off = (tgt : Int)) (hx : -2147483648 ≤ x ∧ x < 2147483648) (hy : -2147483648 ≤ y ∧ y < 2147483648) (kt : x = y → fb_V E M tgt ls st σ Q) (kf : ¬ x = y → fb_V E M (pc + 3) ls st σ Q) : fb_V E M pc ls (.inl y :: .inl x :: st) σ Q := by
  intro p e s m args below meth c H locs la C hP hS hL
  exact lv_icmp_eq C.1 C.2.1 hd ht (fun h => kt ((fun h => (fb_eq_iff hx hy).mp h) h) p e s m args below meth c H locs la C hP hS hL) (fun h => kf ((fun h => mt (fb_eq_iff hx hy).mpr h) h) p e s m args below meth c H locs la C hP hS hL)
theorem fb_icmp_ne {x y : Int} {off : Int} {tgt : Nat} (hd : decode M.2.1 pc = .ok (.if_icmp .ne off, 3)) (ht : (pc : Int) + off = (tgt : Int)) (hx : -2147483648 ≤ x ∧ x < 2147483648) (hy : -2147483648 ≤ y ∧ y < 2147483648) (kt : ¬ x = y → fb_V E M tgt ls st σ Q) (kf : x = y → fb_V E M (pc + 3) ls st σ Q) : fb_V E M pc ls (.inl y :: .inl x :: st) σ Q := by
  intro p e s m args below meth c H locs la C hP hS hL
  exact lv_icmp_ne C.1 C.2.1 hd ht (fun h => kt ((fun h => mt (fb_eq_iff hx hy).mpr h) h) p e s m args below meth c H locs la C hP hS hL) (fun h => kf ((fun h => (fb_eq_iff hx hy).mp h) h) p e s m args below meth c H locs la C hP hS hL)
theorem fb_icmp_lt {x y : Int} {off : Int} {tgt : Nat} (hd : decode M.2.1 pc = .ok (.if_icmp .lt off, 3)) (ht : (pc : Int) + off = (tgt : Int)) (hx : -2147483648 ≤ x ∧ x < 2147483648) (hy : -2147483648 ≤ y ∧ y < 2147483648) (kt : x < y → fb_V E M tgt ls st σ Q) (kf : ¬ x < y → fb_V E M (pc + 3) ls st σ Q) : fb_V E M pc ls (.inl y :: .inl x :: st) σ Q := by
  intro p e s m args below meth c H locs la C hP hS hL
  exact lv_icmp_lt C.1 C.2.1 hd ht (fun h => kt ((fun h => (fb_lt_iff hx hy).mp h) h) p e s m args below meth c H locs la C hP hS hL) (fun h => kf ((fun h => mt (fb_lt_iff hx hy).mpr h) h) p e s m args below meth c H locs la C hP hS hL)
theorem fb_icmp_ge {x y : Int} {off : Int} {tgt : Nat} (hd : decode M.2.1 pc = .ok (.if_icmp .ge off, 3)) (ht : (pc : Int) + off = (tgt : Int)) (hx : -2147483648 ≤ x ∧ x < 2147483648) (hy : -2147483648 ≤ y ∧ y < 2147483648) (kt : y ≤ x → fb_V E M tgt ls st σ Q) (kf : ¬ y ≤ x → fb_V E M (pc + 3) ls st σ Q) : fb_V E M pc ls (.inl y :: .inl x :: st) σ Q := by
  intro p e s m args below meth c H locs la C hP hS hL
  exact lv_icmp_ge C.1 C.2.1 hd ht (fun h => kt ((fun h => (fb_le_iff hy hx).mp h) h) p e s m args below meth c H locs la C hP hS hL) (fun h => kf ((fun h => mt (fb_le_iff hy hx).mpr h) h) p e s m args below meth c H locs la C hP hS hL)
theorem fb_icmp_gt {x y : Int} {off : Int} {tgt : Nat} (hd : decode M.2.1 pc = .ok (.if_icmp .gt off, 3)) (ht : (pc : Int) + off = (tgt : Int)) (hx : -2147483648 ≤ x ∧ x < 2147483648) (hy : -2147483648 ≤ y ∧ y < 2147483648) (kt : y < x → fb_V E M tgt ls st σ Q) (kf : ¬ y < x → fb_V E M (pc + 3) ls st σ Q) : fb_V E M pc ls (.inl y :: .inl x :: st) σ Q := by
  intro p e s m args below meth c H locs la C hP hS hL
  exact lv_icmp_gt C.1 C.2.1 hd ht (fun h => kt ((fun h => (fb_lt_iff hy hx).mp h) h) p e s m args below meth c H locs la C hP hS hL) (fun h => kf ((fun h => mt (fb_lt_iff hy hx).mpr h) h) p e s m args below meth c H locs la C hP hS hL)
theorem fb_icmp_le {x y : Int} {off : Int} {tgt : Nat} (hd : decode M.2.1 pc = .ok (.if_icmp .le off, 3)) (ht : (pc : Int) + off = (tgt : Int)) (hx : -2147483648 ≤ x ∧ x < 2147483648) (hy : -2147483648 ≤ y ∧ y < 2147483648) (kt : x ≤ y → fb_V E M tgt ls st σ Q) (kf : ¬ x ≤ y → fb_V E M (pc + 3) ls st σ Q) : fb_V E M pc ls (.inl y :: .inl x :: st) σ Q := by
  intro p e s m args below meth c H locs la C hP hS hL
  exact lv_icmp_le C.1 C.2.1 hd ht (fun h => kt ((fun h => (fb_le_iff hx hy).mp h) h) p e s m args below meth c H locs la C hP hS hL) (fun h => kf ((fun h => mt (fb_le_iff hx hy).mpr h) h) p e s m args below meth c H locs la C hP hS hL)
theorem fb_goto {off : Int} {tgt : Nat} (hd : decode M.2.1 pc = .ok (.goto off, 3)) (ht : (pc : Int) + off = (tgt : Int)) (k : fb_V E M tgt ls st σ Q) : fb_V E M pc ls st σ Q := by
  intro p e s m args below meth c H locs la C hP hS hL
  exact lv_goto C.1 C.2.1 hd ht (k p e s m args below meth c H locs la C hP hS hL)
theorem fb_tsIn {dflt lo hi : Int} {offs : Array Int} {len : Nat} {x : Int} (off : Int) {tgt : Nat} (hd : decode M.2.1 pc = .ok (.tableswitch dflt lo hi offs, len)) (hx : -2147483648 ≤ x ∧ x < 2147483648) (h1 : lo ≤ x) (h2 : x ≤ hi) (ho : offs[(x - lo).toNat]? = some off) (ht : (pc : Int) + off = (tgt : Int)) (k : fb_V E M tgt ls st σ Q) : fb_V E M pc ls (.inl x :: st) σ Q := by
  intro p e s m args below meth c H locs la C hP hS hL
  have e1 := fb_ti hx.1 hx.2
  exact lv_tableIn C.1 C.2.1 hd (by rw [e1]; omega) (by rw [e1]; omega) (by rw [e1]; exact ho) ht (k p e s m args below meth c H locs la C hP hS hL)
theorem fb_tsOut {dflt lo hi : Int} {offs : Array Int} {len : Nat} {x : Int} {tgt : Nat} (hd : decode M.2.1 pc = .ok (.tableswitch dflt lo hi offs, len)) (hx : -2147483648 ≤ x ∧ x < 2147483648) (h : x < lo ∨ hi < x) (ht : (pc : Int) + dflt = (tgt : Int)) (k : fb_V E M tgt ls st σ Q) : fb_V E M pc ls (.inl x :: st) σ Q := by
  intro p e s m args below meth c H locs la C hP hS hL
  have e1 := fb_ti hx.1 hx.2
  exact lv_tableOut C.1 C.2.1 hd (by rw [e1]; exact h) ht (k p e s m args below meth c H locs la C hP hS hL)
theorem fb_look {dflt : Int} {ps : Array (Int × Int)} {len : Nat} {x : Int} (off : Int) {tgt : Nat} (hd : decode M.2.1 pc = .ok (.lookupswitch dflt ps, len)) (hx : -2147483648 ≤ x ∧ x < 2147483648) (hp : (ps.toList.zip (ps.toList.drop 1)).all (fun (a, next) => a.1 < next.1) = true) (ho : Op.lookupswitch.offset ps.toList dflt x = off) (ht : (pc : Int) + off = (tgt : Int)) (k : fb_V E M tgt ls st σ Q) : fb_V E M pc ls (.inl x :: st) σ Q := by
  intro p e s m args below meth c H locs la C hP hS hL
  have e1 := fb_ti hx.1 hx.2
  exact lv_lookup C.1 C.2.1 hd hp (by rw [e1]; exact ho) ht (k p e s m args below meth c H locs la C hP hS hL)
/-- a field's link: a word of the tables, or of the nest -/
def fb_lk (C : String) (idx : Nat) (T : u_T) (k : Nat) : Prop := Cond.fieldLink C idx (T k).1 (T k).2.1 (T k).2.2.1 ∈ fb_WA ∨ Cond.fieldLinkNest C idx (T k).1 (T k).2.1 (T k).2.2.1 "FrameBackEnd" ∈ fb_NW
theorem fb_Nw {E : fb_E} {M : fb_M} {p : Program} {s : State} {m : MethodId} {args : Array Value} {meth : Method} {c : Code} (C : fb_C E M p s m args meth c) {w : Cond} (hw : w ∈ fb_NW) (ho : w.onTables = true) : w.before args s = true := va_Nw.use ho (C.2.2.2.2.2.2.2.2.2.2.1 w hw)
theorem fb_cl_ws {ci : Nat} {C : String} {T : u_T} {N : Nat} (hc : fb_cl[ci]? = some (C, T, N)) : ∀ w ∈ u_ws C T N, w ∈ fb_WA := by
  have h : ∀ q ∈ fb_cl, ∀ w ∈ u_ws q.1 q.2.1 q.2.2, w ∈ fb_WA := fb_cl_ok
  exact h _ (List.mem_of_getElem? hc)
theorem fb_getI {x : Int} (k i : Nat) {ci idx : Nat} {fds : List (Option Nat)} {R : String} {T : u_T} {N : Nat} (hd : decode M.2.1 pc = .ok (.getfield idx, 3)) (hk : fb_shp[k]? = some (0, ci, fds)) (hf : fds[i]? = some none) (hc : fb_cl[ci]? = some (R, T, N)) (hi : i < N) (hl : fb_lk M.1.cls idx T i) (hx : σ.1 (32 * k + i) = x) (kk : fb_V E M (pc + 3) ls (.inl x :: st) σ Q) : fb_V E M pc ls (.inr k :: st) σ Q := by
  intro p e s m args below meth c H locs la C hP hS hL
  subst hx
  have hts := C.2.2.2.2.2.1
  have hin : ∀ w ∈ u_ws R T N, w ∈ fb_ws M := fun w hw => List.mem_cons_of_mem _ (fb_cl_ws hc w hw)
  have hK := C.2.2.2.2.2.2.2.2.1
  rcases hl with hl | hl
  · exact va_get C.1 C.2.1 hts hin C.2.2.2.2.1 hK hP k (fb_W_at hk) hc i hi (hts _ (List.mem_cons_of_mem _ hl)) (fun _ h => h) (v := .int (Int32.ofInt (σ.1 (32 * k + i)))) (by rw [List.getElem?_mapIdx, hf]; rfl) hd (kk p e s m args below meth c H locs la C hP hS hL)
  · exact va_getN C.1 C.2.1 hts hin C.2.2.2.2.1 hK hP k (fb_W_at hk) hc i hi (fb_Nw C hl rfl) (fun _ h => h) (v := .int (Int32.ofInt (σ.1 (32 * k + i)))) (by rw [List.getElem?_mapIdx, hf]; rfl) hd (kk p e s m args below meth c H locs la C hP hS hL)
theorem fb_getR (k i : Nat) {ci idx j : Nat} {fds : List (Option Nat)} {R : String} {T : u_T} {N : Nat} (hd : decode M.2.1 pc = .ok (.getfield idx, 3)) (hk : fb_shp[k]? = some (0, ci, fds)) (hf : fds[i]? = some (some j)) (hc : fb_cl[ci]? = some (R, T, N)) (hi : i < N) (hl : fb_lk M.1.cls idx T i) (kk : fb_V E M (pc + 3) ls (.inr j :: st) σ Q) : fb_V E M pc ls (.inr k :: st) σ Q := by
  intro p e s m args below meth c H locs la C hP hS hL
  have hts := C.2.2.2.2.2.1
  have hin : ∀ w ∈ u_ws R T N, w ∈ fb_ws M := fun w hw => List.mem_cons_of_mem _ (fb_cl_ws hc w hw)
  have hK := C.2.2.2.2.2.2.2.2.1
  rcases hl with hl | hl
  · exact va_get C.1 C.2.1 hts hin C.2.2.2.2.1 hK hP k (fb_W_at hk) hc i hi (hts _ (List.mem_cons_of_mem _ hl)) (fun _ h => h) (v := .ref (E.2.2.1 j)) (by rw [List.getElem?_mapIdx, hf]; rfl) hd (kk p e s m args below meth c H locs la C hP hS hL)
  · exact va_getN C.1 C.2.1 hts hin C.2.2.2.2.1 hK hP k (fb_W_at hk) hc i hi (fb_Nw C hl rfl) (fun _ h => h) (v := .ref (E.2.2.1 j)) (by rw [List.getElem?_mapIdx, hf]; rfl) hd (kk p e s m args below meth c H locs la C hP hS hL)
theorem fb_putI (k i : Nat) {ci idx : Nat} {x : Int} {fds : List (Option Nat)} {R : String} {T : u_T} {N : Nat} (hd : decode M.2.1 pc = .ok (.putfield idx, 3)) (hk : fb_shp[k]? = some (0, ci, fds)) (hf : fds[i]? = some none) (hc : fb_cl[ci]? = some (R, T, N)) (hi : i < N) (hfin : (T i).2.2.2 = false) (hty : parseFieldDescriptor (T i).2.2.1 = some .int) (hl : fb_lk M.1.cls idx T i) (kk : fb_V E M (pc + 3) ls st (fb_sg σ (32 * k + i) x) Q) : fb_V E M pc ls (.inl x :: .inr k :: st) σ Q := by
  intro p e s m args below meth c H locs la C hP hS hL
  have hnr : narrow .int (.int (Int32.ofInt x)) = .int (Int32.ofInt x) := rfl
  have hft : fits .int (.int (Int32.ofInt x)) = true := rfl
  have hts := C.2.2.2.2.2.1
  have hin : ∀ w ∈ u_ws R T N, w ∈ fb_ws M := fun w hw => List.mem_cons_of_mem _ (fb_cl_ws hc w hw)
  have hK := C.2.2.2.2.2.2.2.2.1
  have hD := fb_HD C.2.2.2.2.2.2.2.1 σ
  obtain ⟨t0, ht0, hn0⟩ := fb_cl_ty hc
  have hll : i < (fds.mapIdx (fb_fv E.2.2.1 σ k)).length := by rw [List.length_mapIdx]; exact (List.getElem?_eq_some_iff.mp hf).1
  rcases hl with hl | hl
  · refine va_put C.1 C.2.1 hts hin t0 ht0 hn0 C.2.2.2.2.1 hK hP hD hS k (fb_W_at hk) hc i hi (hts _ (List.mem_cons_of_mem _ hl)) (fun _ h => h) hfin hty hnr hft hll hd (fun H1 locs1 hP1 _ hS1 => ?_)
    have hP2 : va_P E.2.1 fb_cl (fb_W E (fb_sg σ (32 * k + i) x)) H1 := by rw [← fb_set_g hk hf]; exact hP1
    exact kk p e s m args below meth c H1 locs1 la C hP2 hS1 hL
  · refine va_putN C.1 C.2.1 hts hin t0 ht0 hn0 C.2.2.2.2.1 hK hP hD hS k (fb_W_at hk) hc i hi (fb_Nw C hl rfl) (fun _ h => h) hfin hty hnr hft hll hd (fun H1 locs1 hP1 _ hS1 => ?_)
    have hP2 : va_P E.2.1 fb_cl (fb_W E (fb_sg σ (32 * k + i) x)) H1 := by rw [← fb_set_g hk hf]; exact hP1
    exact kk p e s m args below meth c H1 locs1 la C hP2 hS1 hL
theorem fb_putZ (k i : Nat) {ci idx : Nat} {x : Int} {fds : List (Option Nat)} {R : String} {T : u_T} {N : Nat} (hd : decode M.2.1 pc = .ok (.putfield idx, 3)) (hx : x = 0 ∨ x = 1) (hk : fb_shp[k]? = some (0, ci, fds)) (hf : fds[i]? = some none) (hc : fb_cl[ci]? = some (R, T, N)) (hi : i < N) (hfin : (T i).2.2.2 = false) (hty : parseFieldDescriptor (T i).2.2.1 = some .boolean) (hl : fb_lk M.1.cls idx T i) (kk : fb_V E M (pc + 3) ls st (fb_sg σ (32 * k + i) x) Q) : fb_V E M pc ls (.inl x :: .inr k :: st) σ Q := by
  intro p e s m args below meth c H locs la C hP hS hL
  have hnr : narrow .boolean (.int (Int32.ofInt x)) = .int (Int32.ofInt x) := by rcases hx with rfl | rfl <;> rfl
  have hft : fits .boolean (.int (Int32.ofInt x)) = true := by rcases hx with rfl | rfl <;> rfl
  have hts := C.2.2.2.2.2.1
  have hin : ∀ w ∈ u_ws R T N, w ∈ fb_ws M := fun w hw => List.mem_cons_of_mem _ (fb_cl_ws hc w hw)
  have hK := C.2.2.2.2.2.2.2.2.1
  have hD := fb_HD C.2.2.2.2.2.2.2.1 σ
  obtain ⟨t0, ht0, hn0⟩ := fb_cl_ty hc
  have hll : i < (fds.mapIdx (fb_fv E.2.2.1 σ k)).length := by rw [List.length_mapIdx]; exact (List.getElem?_eq_some_iff.mp hf).1
  rcases hl with hl | hl
  · refine va_put C.1 C.2.1 hts hin t0 ht0 hn0 C.2.2.2.2.1 hK hP hD hS k (fb_W_at hk) hc i hi (hts _ (List.mem_cons_of_mem _ hl)) (fun _ h => h) hfin hty hnr hft hll hd (fun H1 locs1 hP1 _ hS1 => ?_)
    have hP2 : va_P E.2.1 fb_cl (fb_W E (fb_sg σ (32 * k + i) x)) H1 := by rw [← fb_set_g hk hf]; exact hP1
    exact kk p e s m args below meth c H1 locs1 la C hP2 hS1 hL
  · refine va_putN C.1 C.2.1 hts hin t0 ht0 hn0 C.2.2.2.2.1 hK hP hD hS k (fb_W_at hk) hc i hi (fb_Nw C hl rfl) (fun _ h => h) hfin hty hnr hft hll hd (fun H1 locs1 hP1 _ hS1 => ?_)
    have hP2 : va_P E.2.1 fb_cl (fb_W E (fb_sg σ (32 * k + i) x)) H1 := by rw [← fb_set_g hk hf]; exact hP1
    exact kk p e s m args below meth c H1 locs1 la C hP2 hS1 hL
theorem fb_ild {k n : Nat} {i x : Int} {r : List (Option Nat)} (hd : decode M.2.1 pc = .ok (.iaload, 1)) (hk : fb_shp[k]? = some (1, n, r)) (hi : 0 ≤ i ∧ i < n) (hx : σ.2 k i = x) (kk : fb_V E M (pc + 1) ls (.inl x :: st) σ Q) : fb_V E M pc ls (.inl i :: .inr k :: st) σ Q := by
  intro p e s m args below meth c H locs la C hP hS hL
  subst hx
  obtain ⟨h1, h2⟩ := fb_in hi.1 hi.2 (fb_len hk)
  refine va_iald C.1 C.2.1 C.2.2.2.2.2.2.2.2.1 hP k 0 (fb_W_at hk) rfl h1 hd ?_
  have h3 : ((i.toNat : Nat) : Int) = i := by omega
  rw [h2, h3]
  exact kk p e s m args below meth c H locs la C hP hS hL
theorem fb_zld {k n : Nat} {i x : Int} {r : List (Option Nat)} (hd : decode M.2.1 pc = .ok (.baload, 1)) (hk : fb_shp[k]? = some (2, n, r)) (hi : 0 ≤ i ∧ i < n) (hx : σ.2 k i = x) (kk : fb_V E M (pc + 1) ls (.inl x :: st) σ Q) : fb_V E M pc ls (.inl i :: .inr k :: st) σ Q := by
  intro p e s m args below meth c H locs la C hP hS hL
  subst hx
  obtain ⟨h1, h2⟩ := fb_in hi.1 hi.2 (fb_len hk)
  refine va_zald C.1 C.2.1 C.2.2.2.2.2.2.2.2.1 hP k 1 (fb_W_at hk) rfl h1 hd ?_
  have h3 : ((i.toNat : Nat) : Int) = i := by omega
  rw [h2, h3]
  exact kk p e s m args below meth c H locs la C hP hS hL
theorem fb_ist {k n : Nat} {i x : Int} {r : List (Option Nat)} (hd : decode M.2.1 pc = .ok (.iastore, 1)) (hk : fb_shp[k]? = some (1, n, r)) (hi : 0 ≤ i ∧ i < n) (kk : fb_V E M (pc + 1) ls st (fb_sm σ k i x) Q) : fb_V E M pc ls (.inl x :: .inl i :: .inr k :: st) σ Q := by
  intro p e s m args below meth c H locs la C hP hS hL
  obtain ⟨h1, h2⟩ := fb_in hi.1 hi.2 (fb_len hk)
  refine va_iast C.1 C.2.1 C.2.2.2.2.2.2.2.2.1 hP (fb_HD C.2.2.2.2.2.2.2.1 σ) hS k 0 (fb_W_at hk) rfl h1 hd (fun H1 locs1 hP1 _ hS1 => ?_)
  rw [h2, fb_set_m hk hi.1] at hP1
  exact kk p e s m args below meth c H1 locs1 la C hP1 hS1 hL
theorem fb_zst {k n : Nat} {i x : Int} {r : List (Option Nat)} (hd : decode M.2.1 pc = .ok (.bastore, 1)) (hx : x = 0 ∨ x = 1) (hk : fb_shp[k]? = some (2, n, r)) (hi : 0 ≤ i ∧ i < n) (kk : fb_V E M (pc + 1) ls st (fb_sm σ k i x) Q) : fb_V E M pc ls (.inl x :: .inl i :: .inr k :: st) σ Q := by
  intro p e s m args below meth c H locs la C hP hS hL
  obtain ⟨h1, h2⟩ := fb_in hi.1 hi.2 (fb_len hk)
  refine va_zast C.1 C.2.1 C.2.2.2.2.2.2.2.2.1 hP (fb_HD C.2.2.2.2.2.2.2.1 σ) hS k 1 (fb_W_at hk) rfl h1 hd (fun H1 locs1 hP1 _ hS1 => ?_)
  have e1 : vp_nar .boolean (Int32.ofInt x) = Int32.ofInt x := by rcases hx with rfl | rfl <;> rfl
  rw [h2, e1, fb_set_z hk hi.1] at hP1
  exact kk p e s m args below meth c H1 locs1 la C hP1 hS1 hL
theorem fb_ald {k n r0 : Nat} {i : Int} (hd : decode M.2.1 pc = .ok (.aaload, 1)) (hk : fb_shp[k]? = some (3, n, [some r0])) (hi : 0 ≤ i ∧ i < n) (kk : fb_V E M (pc + 1) ls (.inr (r0 + i.toNat) :: st) σ Q) : fb_V E M pc ls (.inl i :: .inr k :: st) σ Q := by
  intro p e s m args below meth c H locs la C hP hS hL
  obtain ⟨h1, h2⟩ := fb_in hi.1 hi.2 (fb_len hk)
  have hlt : (Int32.ofInt i).toNatClampNeg < n := Nat.not_le.mp fun q => h1 (Or.inr q)
  refine W.aald (v := .ref (E.2.2.1 (r0 + i.toNat))) (ty := .array .int) C.1 C.2.1 (hP k _ (fb_W_at hk)) (C.2.2.2.2.2.2.2.2.2.1 n (fun j => va_rf (some (E.2.2.1 (fb_r0 [some r0] + j))))) rfl (fun q => by cases q) (by show ¬ (_ ∨ (arrV _ _ _).slots.size ≤ _); rw [arrV_size]; exact h1) (by show (arrV _ _ _).slots[_]? = _; rw [arrV_read _ _ hlt, h2]; rfl) rfl rfl hd ?_
  exact kk p e s m args below meth c H locs la C hP hS hL
theorem fb_alen {k n a : Nat} {r : List (Option Nat)} (hd : decode M.2.1 pc = .ok (.arraylength, 1)) (hk : fb_shp[k]? = some (a, n, r)) (ha : a = 1 ∨ a = 2) (kk : fb_V E M (pc + 1) ls (.inl (n : Int) :: st) σ Q) : fb_V E M pc ls (.inr k :: st) σ Q := by
  intro p e s m args below meth c H locs la C hP hS hL
  have hv : Int32.ofNat n = Int32.ofInt (n : Int) := Int32.ofInt_eq_ofNat.symm
  rcases ha with rfl | rfl
  · exact va_alen C.1 C.2.1 C.2.2.2.2.2.2.2.2.1 hP k 0 (fb_W_at hk) rfl hv hd (kk p e s m args below meth c H locs la C hP hS hL)
  · exact va_alen C.1 C.2.1 C.2.2.2.2.2.2.2.2.1 hP k 1 (fb_W_at hk) rfl hv hd (kk p e s m args below meth c H locs la C hP hS hL)
theorem fb_sorts_get {idx : Nat} (hd : decode M.2.1 pc = .ok (.getstatic idx, 3)) (hw : Cond.fieldLinkNest M.1.cls idx "FrameBackEnd" "SORTS" "[I" "FrameBackEnd" ∈ fb_NW) (kk : fb_V E M (pc + 3) ls (.inr 99 :: st) σ Q) : fb_V E M pc ls st σ Q := by
  intro p e s m args below meth c H locs la C hP hS hL
  exact va_getsN C.1 C.2.1 C.2.2.2.2.2.2.2.2.2.2.2.1 hS C.2.2.2.2.1 (fb_Nw C hw rfl) (fun _ h => h) hd (kk p e s m args below meth c H locs la C hP hS hL)
theorem fb_sorts_ld {i : Int} (hd : decode M.2.1 pc = .ok (.iaload, 1)) (hi : 0 ≤ i ∧ i < 48) (kk : fb_V E M (pc + 1) ls (.inl (fb_sorts i.toNat) :: st) σ Q) : fb_V E M pc ls (.inl i :: .inr 99 :: st) σ Q := by
  intro p e s m args below meth c H locs la C hP hS hL
  obtain ⟨h1, h2⟩ := fb_in (n := 48) hi.1 hi.2 (by decide)
  refine va_ti C.1 C.2.1 C.2.2.2.2.2.2.2.2.2.2.2.2 hS h1 (v := .int (Int32.ofInt (fb_sorts i.toNat))) (by rw [h2]) hd ?_
  exact kk p e s m args below meth c H locs la C hP hS hL
theorem fb_iret {x : Int} (hd : decode M.2.1 pc = .ok (.ireturn, 1)) (hr : M.2.2.2.1 = some .int) (hq : Q x σ) : fb_V E M pc ls [.inl x] σ Q := by
  intro p e s m args below meth c H locs la C hP hS hL
  have hlocks := C.2.2.2.2.2.2.1
  refine W.iret C.1 C.2.1 (C.2.2.1.trans hr) (fun t ht _ => ?_) hS.2.2 hd hlocks
  unfold fb_Q
  rw [hr]
  exact ⟨⟨Int32.ofInt x, (x, σ), rfl, ⟨rfl, hq⟩, by show va_P E.2.1 fb_cl (fb_W E σ) t.heap; rw [ht]; exact hP⟩, hS.F ht⟩
theorem fb_zret {x : Int} (hd : decode M.2.1 pc = .ok (.ireturn, 1)) (hr : M.2.2.2.1 = some .boolean) (hx : x = 0 ∨ x = 1) (hq : Q x σ) : fb_V E M pc ls [.inl x] σ Q := by
  intro p e s m args below meth c H locs la C hP hS hL
  have hlocks := C.2.2.2.2.2.2.1
  have hnr : narrow .boolean (.int (Int32.ofInt x)) = .int (Int32.ofInt x) := by rcases hx with rfl | rfl <;> rfl
  refine W.zret C.1 C.2.1 (C.2.2.1.trans hr) hnr (fun t ht _ => ?_) hS.2.2 hd hlocks
  unfold fb_Q
  rw [hr]
  exact ⟨⟨Int32.ofInt x, (x, σ), rfl, ⟨rfl, hq⟩, by show va_P E.2.1 fb_cl (fb_W E σ) t.heap; rw [ht]; exact hP⟩, hS.F ht⟩
theorem fb_vret (hd : decode M.2.1 pc = .ok (.return_, 1)) (hr : M.2.2.2.1 = none) (hq : Q 0 σ) : fb_V E M pc ls [] σ Q := by
  intro p e s m args below meth c H locs la C hP hS hL
  have hlocks := C.2.2.2.2.2.2.1
  refine W.vret C.1 C.2.1 (C.2.2.1.trans hr) (fun t ht _ => ?_) hS.2.2 hd hlocks
  unfold fb_Q
  rw [hr]
  exact ⟨⟨σ, rfl, hq, by show va_P E.2.1 fb_cl (fb_W E σ) t.heap; rw [ht]; exact hP⟩, hS.F ht⟩
theorem fb_max {idx : Nat} {x y : Int} (hd : decode M.2.1 pc = .ok (.invokestatic idx, 3)) (hw : (Cond.methodLink M.1.cls idx Lib.Math.max.name ∈ fb_WA ∧ Cond.static Lib.Math.max.name ∈ fb_WA ∧ Cond.initialized "java/lang/Math" ∈ fb_WA ∧ Cond.code Lib.Math.max.name Lib.Math.max.code 2 (some .int) ∈ fb_WA) ∧ 1 ≤ M.2.2.2.2 ∧ Nat.ble st.length 8 = true) (hx : -2147483648 ≤ x ∧ x < 2147483648) (hy : -2147483648 ≤ y ∧ y < 2147483648) (k : fb_V E M (pc + 3) ls (.inl (if x < y then y else x) :: st) σ Q) : fb_V E M pc ls (.inl y :: .inl x :: st) σ Q := by
  intro p e s m args below meth c H locs la C hP hS hL
  obtain ⟨⟨w1, w2, w3, w4⟩, w5, w6⟩ := hw
  have w6 := Nat.le_of_ble_eq_true w6
  have hts := C.2.2.2.2.2.1
  refine va_mmax C.1 C.2.1 (by rw [hL.1]; exact C.2.2.2.1) C.2.2.2.2.1 (hts _ (List.mem_cons_of_mem _ w1)) (hts _ (List.mem_cons_of_mem _ w2)) (hts _ (List.mem_cons_of_mem _ w3)) (hts _ (List.mem_cons_of_mem _ w4)) w5 (by have := fb_rest0 E.2.2.1 st; show _ ≤ 40 * M.2.2.2.2; omega) (Nat.le_refl _) (Nat.le_refl _) hd ?_
  have e1 : (if Int32.ofInt x < Int32.ofInt y then Int32.ofInt y else Int32.ofInt x) = Int32.ofInt (if x < y then y else x) := by
    by_cases h : x < y
    · rw [if_pos h, if_pos ((fb_lt_iff hx hy).mpr h)]
    · rw [if_neg h, if_neg (mt (fb_lt_iff hx hy).mp h)]
  rw [e1]
  exact k p e s m args below meth c H locs la C hP hS hL
/-- fewer known locals -/
def fb_sub : List fb_X → List fb_X → Prop
  | [], [] => True
  | a :: l, b :: r => (a = .inr 999 ∨ a = b) ∧ fb_sub l r
  | _, _ => False
theorem fb_sub_0 : fb_sub [] [] := trivial
theorem fb_sub_k {a : fb_X} {l r : List fb_X} (h : fb_sub l r) : fb_sub (a :: l) (a :: r) := ⟨Or.inr rfl, h⟩
theorem fb_sub_d {b : fb_X} {l r : List fb_X} (h : fb_sub l r) : fb_sub (.inr 999 :: l) (b :: r) := ⟨Or.inl rfl, h⟩
theorem fb_sub_at : ∀ {l r : List fb_X}, fb_sub l r → ∀ (i : Nat) (v : fb_X), l[i]? = some v → v ≠ .inr 999 → r[i]? = some v
  | [], [], _, i, v, h, _ => by simp at h
  | a :: l, b :: r, hs, 0, v, h, hv => by
    simp only [List.getElem?_cons_zero, Option.some.injEq] at h ⊢
    rcases hs.1 with e | e
    · exact absurd (h ▸ e) hv
    · rw [← e, h]
  | a :: l, b :: r, hs, i + 1, v, h, hv => by
    simp only [List.getElem?_cons_succ] at h ⊢
    exact fb_sub_at hs.2 i v h hv
  | [], _ :: _, hs, _, _, _, _ => hs.elim
  | _ :: _, [], hs, _, _, _, _ => hs.elim
theorem fb_drop {ls' : List fb_X} (hs : fb_sub ls' ls) (h : fb_V E M pc ls' st σ Q) : fb_V E M pc ls st σ Q := by
  intro p e s m args below meth c H locs la C hP hS hL
  exact h p e s m args below meth c H locs la C hP hS ⟨hL.1, hL.2.1, fun i x hi => hL.2.2.1 i x (fb_sub_at hs i _ hi (by intro q; cases q)), fun i k hi hk => hL.2.2.2 i k (fb_sub_at hs i _ hi (by intro q; cases q; exact hk rfl)) hk⟩
end FBO
/-! contracts and calls -/
theorem fb_args_sl (ad : Nat → Nat) (vs : List fb_X) : lg_sl (vs.map (fb_cv ad)) = vs.map (fun v => Slot.val (fb_cv ad v)) := by
  induction vs with
  | nil => rfl
  | cons v t ih =>
    have h : lg_sl ((v :: t).map (fb_cv ad)) = (if (fb_cv ad v).category = 2 then [Slot.val (fb_cv ad v), Slot.second] else [Slot.val (fb_cv ad v)]) ++ lg_sl (t.map (fb_cv ad)) := rfl
    rw [h, ih, fb_cat]
    rfl
theorem fb_entry {E : fb_E} {vs ls : List fb_X} {n : Nat} (hn : vs.length ≤ n) (hls : ls = vs ++ List.replicate (n - vs.length) (.inr 999)) : fb_L E ((lg_sl (vs.map (fb_cv E.2.2.1)) ++ List.replicate (n - (lg_sl (vs.map (fb_cv E.2.2.1))).length) Slot.unset).toArray) n ls := by
  have h := lv_entry (vs.map (fb_cv E.2.2.1)) (n := n) (by rw [fb_args_sl, List.length_map]; exact hn)
  have key : ∀ (i : Nat) (v : fb_X), ls[i]? = some v → v ≠ .inr 999 → ((lg_sl (vs.map (fb_cv E.2.2.1)) ++ List.replicate (n - (lg_sl (vs.map (fb_cv E.2.2.1))).length) Slot.unset).toArray)[i]? = some (.val (fb_cv E.2.2.1 v)) := by
    intro i v hi hv
    rw [hls] at hi
    by_cases hl : i < vs.length
    · rw [List.getElem?_append_left hl] at hi
      rw [List.getElem?_toArray, List.getElem?_append_left (by rw [fb_args_sl, List.length_map]; exact hl), fb_args_sl, List.getElem?_map, hi]
      rfl
    · rw [List.getElem?_append_right (by omega), List.getElem?_replicate] at hi
      split at hi
      · cases hi; exact absurd rfl hv
      · cases hi
  refine ⟨h.1, h.2.1, fun i x hi => key i _ hi (by intro h; cases h), fun i k hi hk => key i _ hi (by intro h; cases h; exact hk rfl)⟩
def fb_Pc (E : fb_E) (vs : List fb_X) (σ : fb_S) : Array Value → State → Prop := va_Pc (vs.map (fb_cv E.2.2.1)) (fun U => fb_H E ∧ fb_K E U ∧ va_P E.2.1 fb_cl (fb_W E σ) U.heap)
theorem fb_met {E : fb_E} {M : fb_M} {vs ls : List fb_X} {σ : fb_S} {Q : Int → fb_S → Prop} (hpl : plainName M.1.cls = true) (hn : vs.length ≤ M.2.2.1) (hls : ls = vs ++ List.replicate (M.2.2.1 - vs.length) (.inr 999)) (h : fb_V E M 0 ls [] σ Q) : Met E.1 M.1 (fb_ws M) (fb_rm M) (fb_Pc E vs σ) (fb_Q E M Q) 0 0 (fb_A E) := by
  refine Met.ofW (cc := M.2.1) (maxL := M.2.2.1) (ret := M.2.2.2.1) hpl rfl ?_
  intro p e s m args below meth c s₁ B hml hv
  obtain ⟨rfl, hH, hK, hP⟩ := hv
  have hts := atoms_spec (ws := fb_ws M) B.pre
  have hown : s.vm.findClass M.1.cls = some m.cls := findClass_of_methodNamed B.named
  rw [lg_entry_eq]
  exact h p e s m _ below meth c s.heap [] _ ⟨B.exec, B.bytes, B.returns, hml, hown, hts, B.notSynchronized, hH, hK⟩ hP va_S.rf (fb_entry hn hls)
theorem fb_NW_warm {w : Cond} (hw : w ∈ fb_NW) {s U : State} (hW : s.WarmedH U.vm) (h : va_Nw w s) : va_Nw w U := by
  have h1 : ∀ w ∈ fb_NW, fb_isN w = true := by decide +kernel
  have h2 := h1 w hw
  cases w <;> first | exact va_Nw.warmF hW h | exact va_Nw.warmM hW h | (simp [fb_isN] at h2; done)
theorem fb_NW_on {w : Cond} (hw : w ∈ fb_NW) : w.onTables = true := by
  have h1 : ∀ w ∈ fb_NW, fb_isN w = true := by decide +kernel
  have h2 := h1 w hw
  cases w <;> first | rfl | (simp [fb_isN] at h2; done)
theorem fb_K.moved {E : fb_E} {s U : State} {H : Heap} {locs : List Loc} (h : fb_K E s) (hW : s.WarmedH U.vm) (hS : va_S (fb_A E) s.heap H locs) (hU : U.heap = H) : fb_K E U := by
  obtain ⟨h1, h2, h3, h4, h5⟩ := h
  refine ⟨va_K.moved hW.alike h1, arrOfT_moved hW.alike h2, fun w hw => fb_NW_warm hw hW (h3 w hw), ?_, ?_⟩
  · rw [hU]; exact (h4.moved hW.alike).kept (fun a ha hA => hS.2.1 a ha hA)
  · rw [hU]; exact (h5.moved hW.alike).kept (fun a ha hA => hS.2.1 a ha hA)
theorem fb_K.calling {E : fb_E} {U : State} (h : fb_K E U) (g : JFrame) (mk : MethodId) (a : Array Value) : fb_K E (U.calling g mk a) := by
  obtain ⟨h1, h2, h3, h4, h5⟩ := h
  refine ⟨va_K.moved (u := U) (U := U.calling g mk a) (Vm.Alike.refl U.vm) h1, arrOfT_moved (Vm.Alike.refl U.vm) h2, fun w hw => va_Nw.same (u := U) (U := U.calling g mk a) (fb_NW_on hw) rfl (h3 w hw), ?_, ?_⟩
  · exact h4.moved (U := U.calling g mk a) (Vm.Alike.refl U.vm)
  · exact h5.moved (U := U.calling g mk a) (Vm.Alike.refl U.vm)
theorem fb_blind {E : fb_E} {vs : List fb_X} {σ : fb_S} : FrameBlind (fb_Pc E vs σ) := by
  intro a U g mk q
  obtain ⟨q0, qH, qK, qP⟩ := q
  exact ⟨q0, qH, qK.calling g mk a, qP⟩
theorem fb_good {w : Cond} (h : w ∈ fb_WA) : (w.onTables && w.keeps) = true ∨ ∃ ty, w = .arrayClass ty := good_of_word (List.mem_filter.mp h).2
theorem fb_goodIn {M z : fb_M} {pre : List Cond} (hp : ∀ w ∈ pre, w ∈ fb_WA) (hz : fb_cd z) : GoodIn (fb_ws M) (pre ++ fb_ws z) := by
  have key : ∀ w, w ∈ fb_WA → w ∈ fb_ws M ∧ ((w.onTables && w.keeps) = true ∨ ∃ ty, w = .arrayClass ty) := fun w h => ⟨List.mem_cons_of_mem _ h, fb_good h⟩
  intro w hw
  rcases List.mem_append.mp hw with h | h
  · exact key w (hp w h)
  · rcases List.mem_cons.mp h with rfl | h
    · exact key _ hz
    · exact key w h
/-- the callee's frames and locals fit -/
abbrev fb_ht (M z : fb_M) : Prop := z.2.2.2.2 + 1 ≤ M.2.2.2.2 ∧ z.2.2.1 ≤ 20
theorem fb_ht_room {M z : fb_M} (h : fb_ht M z) : (fb_rm z).frames + 1 ≤ (fb_rm M).frames ∧ 8 + (z.2.2.1 + 11) + (fb_rm z).locals ≤ (fb_rm M).locals := by
  obtain ⟨h1, h2⟩ := h
  refine ⟨h1, ?_⟩
  show 8 + (z.2.2.1 + 11) + 40 * z.2.2.2.2 ≤ 40 * M.2.2.2.2
  omega
theorem fb_rest (ad : Nat → Nat) (st : List fb_X) (h : st.length ≤ 8) : ((st.map (fb_cv ad)).map fun v => v.category).sum ≤ 8 := by
  have e : ((st.map (fb_cv ad)).map fun v => v.category).sum = st.length := by
    clear h
    induction st with
    | nil => rfl
    | cons v t ih =>
      simp only [List.map_cons, List.sum_cons, List.length_cons, fb_cat]
      rw [ih]; omega
  omega
section FBC
variable {E : fb_E} {M z : fb_M} {pc idx k ci np : Nat} {ls st vs lz : List fb_X} {σ : fb_S} {Q : Int → fb_S → Prop} {fds : List (Option Nat)} {R : String} {T : u_T} {N : Nat}
theorem fb_map_rev (ad : Nat → Nat) (vs st : List fb_X) : (vs.reverse ++ st).map (fb_cv ad) = (vs.map (fb_cv ad)).reverse ++ st.map (fb_cv ad) := by simp
def fb_vw (C : String) (z : fb_M) (idx : Nat) (R : String) : Prop := z.1.cls = R ∧ Cond.methodLink C idx z.1 ∈ fb_WA ∧ Cond.instanceMethod z.1 ∈ fb_WA ∧ Cond.selects R z.1 z.1 ∈ fb_WA ∧ Cond.initialized R ∈ fb_WA ∧ fb_cd z ∧ z.1.cls ≠ "java/lang/invoke/MethodHandle" ∧ z.1.cls ≠ "java/lang/invoke/VarHandle" ∧ plainName z.1.cls = true
def fb_sw (C : String) (z : fb_M) (idx : Nat) : Prop := Cond.methodLink C idx z.1 ∈ fb_WA ∧ Cond.static z.1 ∈ fb_WA ∧ Cond.initialized z.1.cls ∈ fb_WA ∧ fb_cd z ∧ z.1.cls ≠ "java/lang/invoke/MethodHandle" ∧ z.1.cls ≠ "java/lang/invoke/VarHandle" ∧ plainName z.1.cls = true

theorem fb_callVi (hd : decode M.2.1 pc = .ok (.invokevirtual idx, 3)) (hw : fb_vw M.1.cls z idx R) (hh : fb_ht M z) (hr : ∃ ty, z.2.2.2.1 = some ty) (hk : fb_shp[k]? = some (0, ci, fds)) (hc : fb_cl[ci]? = some (R, T, N)) (hpar : (parseMethodDescriptor z.1.desc).map (fun d => d.parameters.length) = some np) (hnp : vs.length = np) (hn : Nat.ble (vs.length + 1) z.2.2.1 = true) (hls : lz = (.inr k :: vs) ++ List.replicate (z.2.2.1 - (vs.length + 1)) (.inr 999)) (hm : ls.length = M.2.2.1) (hst : Nat.ble st.length 8 = true)
    (kk : fb_V E z 0 lz [] σ (fun r σ' => fb_V E M (pc + 3) ls (.inl r :: st) σ' Q)) : fb_V E M pc ls (vs.reverse ++ .inr k :: st) σ Q := by
  intro p e s m args below meth c H locs la C hP hS hL
  obtain ⟨w0, w1, w2, w3, w4, w5, w6, w7, w8⟩ := hw
  subst hnp
  have hn := Nat.le_of_ble_eq_true hn
  have hst := Nat.le_of_ble_eq_true hst
  have hM := fb_met (vs := .inr k :: vs) w8 hn hls kk
  have hQ : fb_Q E z (fun r σ' => fb_V E M (pc + 3) ls (.inl r :: st) σ' Q) = va_Qi (fun (r : Int32) (u : Int × fb_S) => r = Int32.ofInt u.1 ∧ fb_V E M (pc + 3) ls (.inl u.1 :: st) u.2 Q) (fun u t => va_P E.2.1 fb_cl (fb_W E u.2) t.heap) (fb_A E) := by unfold fb_Q; obtain ⟨ty, hr⟩ := hr; rw [hr]
  rw [hQ] at hM
  have hts := C.2.2.2.2.2.1
  have hG : GoodIn (fb_ws M) (wsV M.1.cls idx R z.1 (fb_ws z)) := by
    refine fb_goodIn (pre := [.methodLink M.1.cls idx z.1, .instanceMethod z.1, .selects R z.1 z.1, .initialized R]) (fun w h => ?_) w5
    simp only [List.mem_cons, List.not_mem_nil, or_false] at h
    rcases h with rfl | rfl | rfl | rfl <;> assumption
  have hK := C.2.2.2.2.2.2.2.2
  have hrecv := va_recv hK.1 hP hc (fb_W_at hk)
  rw [fb_map_rev]
  refine va_calli (va_runV (As := vs.map (fb_cv E.2.2.1)) (rest := st.map (fb_cv E.2.2.1)) (b := E.2.2.1 k) (C := R) ⟨C.1, C.2.1, C.2.2.2.1, C.2.2.2.2.1, hts⟩ hM (cwV vs.length hts hG rfl rfl rfl ⟨w0, w6, w7, hpar⟩ (fb_ht_room hh)) ⟨fb_blind, hrecv, fun U hU hW => ⟨rfl, C.2.2.2.2.2.2.2.1, hK.moved hW hS hU, by rw [hU]; exact hP⟩⟩ rfl (by rw [List.length_map]) (hL.1) rfl (lv_room (fb_rest _ st hst)) hd ⟨Nat.le_refl _, Nat.le_refl _⟩) hS (fun q _ h => h) (fun q h => h) (fun r u t H1 locs1 ht _ hpost hB _ _ hS1 => ?_)
  obtain ⟨rfl, hV⟩ := hpost
  rw [ht] at hB
  exact hV p e s m args below meth c H1 locs1 la C hB hS1 hL
theorem fb_callVv (hd : decode M.2.1 pc = .ok (.invokevirtual idx, 3)) (hw : fb_vw M.1.cls z idx R) (hh : fb_ht M z) (hr : z.2.2.2.1 = none) (hk : fb_shp[k]? = some (0, ci, fds)) (hc : fb_cl[ci]? = some (R, T, N)) (hpar : (parseMethodDescriptor z.1.desc).map (fun d => d.parameters.length) = some np) (hnp : vs.length = np) (hn : Nat.ble (vs.length + 1) z.2.2.1 = true) (hls : lz = (.inr k :: vs) ++ List.replicate (z.2.2.1 - (vs.length + 1)) (.inr 999)) (hm : ls.length = M.2.2.1) (hst : Nat.ble st.length 8 = true)
    (kk : fb_V E z 0 lz [] σ (fun r σ' => fb_V E M (pc + 3) ls (st) σ' Q)) : fb_V E M pc ls (vs.reverse ++ .inr k :: st) σ Q := by
  intro p e s m args below meth c H locs la C hP hS hL
  obtain ⟨w0, w1, w2, w3, w4, w5, w6, w7, w8⟩ := hw
  subst hnp
  have hn := Nat.le_of_ble_eq_true hn
  have hst := Nat.le_of_ble_eq_true hst
  have hM := fb_met (vs := .inr k :: vs) w8 hn hls kk
  have hQ : fb_Q E z (fun r σ' => fb_V E M (pc + 3) ls (st) σ' Q) = va_Qv (fun σ' : fb_S => fb_V E M (pc + 3) ls st σ' Q) (fun σ' t => va_P E.2.1 fb_cl (fb_W E σ') t.heap) (fb_A E) := by unfold fb_Q; rw [hr]
  rw [hQ] at hM
  have hts := C.2.2.2.2.2.1
  have hG : GoodIn (fb_ws M) (wsV M.1.cls idx R z.1 (fb_ws z)) := by
    refine fb_goodIn (pre := [.methodLink M.1.cls idx z.1, .instanceMethod z.1, .selects R z.1 z.1, .initialized R]) (fun w h => ?_) w5
    simp only [List.mem_cons, List.not_mem_nil, or_false] at h
    rcases h with rfl | rfl | rfl | rfl <;> assumption
  have hK := C.2.2.2.2.2.2.2.2
  have hrecv := va_recv hK.1 hP hc (fb_W_at hk)
  rw [fb_map_rev]
  refine va_callv (va_runV (As := vs.map (fb_cv E.2.2.1)) (rest := st.map (fb_cv E.2.2.1)) (b := E.2.2.1 k) (C := R) ⟨C.1, C.2.1, C.2.2.2.1, C.2.2.2.2.1, hts⟩ hM (cwV vs.length hts hG rfl rfl rfl ⟨w0, w6, w7, hpar⟩ (fb_ht_room hh)) ⟨fb_blind, hrecv, fun U hU hW => ⟨rfl, C.2.2.2.2.2.2.2.1, hK.moved hW hS hU, by rw [hU]; exact hP⟩⟩ rfl (by rw [List.length_map]) (hL.1) rfl (lv_room (fb_rest _ st hst)) hd ⟨Nat.le_refl _, Nat.le_refl _⟩) hS (fun q _ h => h) (fun q h => h) (fun u t H1 locs1 ht _ hV hB _ _ hS1 => ?_)
  rw [ht] at hB
  exact hV p e s m args below meth c H1 locs1 la C hB hS1 hL
theorem fb_callSi (hd : decode M.2.1 pc = .ok (.invokestatic idx, 3)) (hw : fb_sw M.1.cls z idx) (hh : fb_ht M z) (hr : ∃ ty, z.2.2.2.1 = some ty) (hpar : (parseMethodDescriptor z.1.desc).map (fun d => d.parameters.length) = some np) (hnp : vs.length = np) (hn : Nat.ble vs.length z.2.2.1 = true) (hls : lz = vs ++ List.replicate (z.2.2.1 - vs.length) (.inr 999)) (hm : ls.length = M.2.2.1) (hst : Nat.ble st.length 8 = true)
    (kk : fb_V E z 0 lz [] σ (fun r σ' => fb_V E M (pc + 3) ls (.inl r :: st) σ' Q)) : fb_V E M pc ls (vs.reverse ++ st) σ Q := by
  intro p e s m args below meth c H locs la C hP hS hL
  obtain ⟨w1, w2, w4, w5, w6, w7, w8⟩ := hw
  subst hnp
  have hn := Nat.le_of_ble_eq_true hn
  have hst := Nat.le_of_ble_eq_true hst
  have hM := fb_met (vs := vs) w8 hn hls kk
  have hQ : fb_Q E z (fun r σ' => fb_V E M (pc + 3) ls (.inl r :: st) σ' Q) = va_Qi (fun (r : Int32) (u : Int × fb_S) => r = Int32.ofInt u.1 ∧ fb_V E M (pc + 3) ls (.inl u.1 :: st) u.2 Q) (fun u t => va_P E.2.1 fb_cl (fb_W E u.2) t.heap) (fb_A E) := by unfold fb_Q; obtain ⟨ty, hr⟩ := hr; rw [hr]
  rw [hQ] at hM
  have hts := C.2.2.2.2.2.1
  have hG : GoodIn (fb_ws M) (va_wsS M.1.cls idx z.1 (fb_ws z)) := by
    refine fb_goodIn (pre := [.methodLink M.1.cls idx z.1, .static z.1, .initialized z.1.cls]) (fun w h => ?_) w5
    simp only [List.mem_cons, List.not_mem_nil, or_false] at h
    rcases h with rfl | rfl | rfl <;> assumption
  have hK := C.2.2.2.2.2.2.2.2
  rw [fb_map_rev]
  refine va_calli (va_runS (As := vs.map (fb_cv E.2.2.1)) (rest := st.map (fb_cv E.2.2.1)) ⟨C.1, C.2.1, C.2.2.2.1, C.2.2.2.2.1, hts⟩ hM (va_cwS vs.length hts hG rfl rfl rfl ⟨w6, w7, hpar⟩ (fb_ht_room hh)) ⟨fb_blind, fun U hU hW => ⟨rfl, C.2.2.2.2.2.2.2.1, hK.moved hW hS hU, by rw [hU]; exact hP⟩⟩ rfl (by rw [List.length_map]) (hL.1) rfl (lv_room (fb_rest _ st hst)) hd ⟨Nat.le_refl _, Nat.le_refl _⟩) hS (fun q _ h => h) (fun q h => h) (fun r u t H1 locs1 ht _ hpost hB _ _ hS1 => ?_)
  obtain ⟨rfl, hV⟩ := hpost
  rw [ht] at hB
  exact hV p e s m args below meth c H1 locs1 la C hB hS1 hL
theorem fb_callSv (hd : decode M.2.1 pc = .ok (.invokestatic idx, 3)) (hw : fb_sw M.1.cls z idx) (hh : fb_ht M z) (hr : z.2.2.2.1 = none) (hpar : (parseMethodDescriptor z.1.desc).map (fun d => d.parameters.length) = some np) (hnp : vs.length = np) (hn : Nat.ble vs.length z.2.2.1 = true) (hls : lz = vs ++ List.replicate (z.2.2.1 - vs.length) (.inr 999)) (hm : ls.length = M.2.2.1) (hst : Nat.ble st.length 8 = true)
    (kk : fb_V E z 0 lz [] σ (fun r σ' => fb_V E M (pc + 3) ls (st) σ' Q)) : fb_V E M pc ls (vs.reverse ++ st) σ Q := by
  intro p e s m args below meth c H locs la C hP hS hL
  obtain ⟨w1, w2, w4, w5, w6, w7, w8⟩ := hw
  subst hnp
  have hn := Nat.le_of_ble_eq_true hn
  have hst := Nat.le_of_ble_eq_true hst
  have hM := fb_met (vs := vs) w8 hn hls kk
  have hQ : fb_Q E z (fun r σ' => fb_V E M (pc + 3) ls (st) σ' Q) = va_Qv (fun σ' : fb_S => fb_V E M (pc + 3) ls st σ' Q) (fun σ' t => va_P E.2.1 fb_cl (fb_W E σ') t.heap) (fb_A E) := by unfold fb_Q; rw [hr]
  rw [hQ] at hM
  have hts := C.2.2.2.2.2.1
  have hG : GoodIn (fb_ws M) (va_wsS M.1.cls idx z.1 (fb_ws z)) := by
    refine fb_goodIn (pre := [.methodLink M.1.cls idx z.1, .static z.1, .initialized z.1.cls]) (fun w h => ?_) w5
    simp only [List.mem_cons, List.not_mem_nil, or_false] at h
    rcases h with rfl | rfl | rfl <;> assumption
  have hK := C.2.2.2.2.2.2.2.2
  rw [fb_map_rev]
  refine va_callv (va_runS (As := vs.map (fb_cv E.2.2.1)) (rest := st.map (fb_cv E.2.2.1)) ⟨C.1, C.2.1, C.2.2.2.1, C.2.2.2.2.1, hts⟩ hM (va_cwS vs.length hts hG rfl rfl rfl ⟨w6, w7, hpar⟩ (fb_ht_room hh)) ⟨fb_blind, fun U hU hW => ⟨rfl, C.2.2.2.2.2.2.2.1, hK.moved hW hS hU, by rw [hU]; exact hP⟩⟩ rfl (by rw [List.length_map]) (hL.1) rfl (lv_room (fb_rest _ st hst)) hd ⟨Nat.le_refl _, Nat.le_refl _⟩) hS (fun q _ h => h) (fun q h => h) (fun u t H1 locs1 ht _ hV hB _ _ hS1 => ?_)
  rw [ht] at hB
  exact hV p e s m args below meth c H1 locs1 la C hB hS1 hL
end FBC
end
section
theorem fb_row7 {f : Int} (h : 0 ≤ f ∧ f < 6) : fb_shp[7 + f.toNat]? = some (1, 6, []) := by
  have key : ∀ n : Nat, n < 6 → fb_shp[7 + n]? = some (1, 6, []) := by decide +kernel
  exact key f.toNat (by omega)
theorem fb_row25 {f : Int} (h : 0 ≤ f ∧ f < 6) : fb_shp[25 + f.toNat]? = some (1, 6, []) := by
  have key : ∀ n : Nat, n < 6 → fb_shp[25 + n]? = some (1, 6, []) := by decide +kernel
  exact key f.toNat (by omega)
theorem cd_Fb_function : fb_cd fb_Fb_function := fb_tb1 222 rfl rfl
theorem cd_Fb_variable : fb_cd fb_Fb_variable := fb_tb2 2 rfl rfl
theorem cd_Fb_op : fb_cd fb_Fb_op := fb_tb2 10 rfl rfl
theorem cd_Fb_compile : fb_cd fb_Fb_compile := fb_tb2 32 rfl rfl
theorem cd_Fb_length : fb_cd fb_Fb_length := fb_tb2 232 rfl rfl
theorem cd_Fb_code : fb_cd fb_Fb_code := fb_tb2 236 rfl rfl
theorem cd_Fb_longs : fb_cd fb_Fb_longs := fb_tb3 0 rfl rfl
theorem cd_Fb_base : fb_cd fb_Fb_base := fb_tb3 4 rfl rfl
theorem cd_Fb_address : fb_cd fb_Fb_address := fb_tb3 9 rfl rfl
theorem cd_Fb_start : fb_cd fb_Fb_start := fb_tb3 14 rfl rfl
theorem cd_Fb_run : fb_cd fb_Fb_run := fb_tb3 23 rfl rfl
theorem cd_Fb_state : fb_cd fb_Fb_state := fb_tb3 103 rfl rfl
theorem cd_Fb_spent : fb_cd fb_Fb_spent := fb_tb3 107 rfl rfl
theorem cd_Fb_next : fb_cd fb_Fb_next := fb_tb3 111 rfl rfl
theorem cd_Fb_depth : fb_cd fb_Fb_depth := fb_tb3 119 rfl rfl
theorem cd_Fb_value : fb_cd fb_Fb_value := fb_tb3 123 rfl rfl
theorem cd_Fb_output : fb_cd fb_Fb_output := fb_tb3 128 rfl rfl
theorem cd_Fb_accepted : fb_cd fb_Fb_accepted := fb_tb1 230 rfl rfl
theorem cd_Fb_dropCode : fb_cd fb_Fb_dropCode := fb_tb1 234 rfl rfl
theorem cd_Fb_faultOfProgram : fb_cd fb_Fb_faultOfProgram := fb_tb2 36 rfl rfl
theorem cd_Mo_change : fb_cd fb_Mo_change := fb_tb3 233 rfl rfl
theorem cd_Mo_function : fb_cd fb_Mo_function := fb_tb3 229 rfl rfl
theorem cd_Mo_variable : fb_cd fb_Mo_variable := fb_tb3 237 rfl rfl
theorem cd_Mo_is : fb_cd fb_Mo_is := fb_tb4 13 rfl rfl
theorem cd_Mo_scalar : fb_cd fb_Mo_scalar := fb_tb4 9 rfl rfl
theorem cd_Mo_fine : fb_cd fb_Mo_fine := fb_tb4 5 rfl rfl
theorem cd_Mo_op : fb_cd fb_Mo_op := fb_tb4 1 rfl rfl
theorem cd_Mo_branches : fb_cd fb_Mo_branches := fb_tb4 29 rfl rfl
theorem cd_Mo_goal : fb_cd fb_Mo_goal := fb_tb4 33 rfl rfl
theorem cd_Mo_ended : fb_cd fb_Mo_ended := fb_tb4 22 rfl rfl
theorem cd_Mo_aimed : fb_cd fb_Mo_aimed := fb_tb4 26 rfl rfl
theorem cd_Mo_called : fb_cd fb_Mo_called := fb_tb4 37 rfl rfl
theorem cd_Mo_rings : fb_cd fb_Mo_rings := fb_tb4 41 rfl rfl
theorem cd_Mo_end : fb_cd fb_Mo_end := fb_tb4 49 rfl rfl
theorem cd_Mo_framed : fb_cd fb_Mo_framed := fb_tb4 45 rfl rfl
theorem cd_Mo_place : fb_cd fb_Mo_place := fb_tb4 73 rfl rfl
theorem cd_Mo_part : fb_cd fb_Mo_part := fb_tb4 69 rfl rfl
theorem cd_Mo_put : fb_cd fb_Mo_put := fb_tb4 65 rfl rfl
theorem cd_Mo_plain : fb_cd fb_Mo_plain := fb_tb4 61 rfl rfl
theorem cd_Mo_with : fb_cd fb_Mo_with := fb_tb4 81 rfl rfl
theorem cd_Mo_indexed : fb_cd fb_Mo_indexed := fb_tb4 93 rfl rfl
theorem cd_Mo_to : fb_cd fb_Mo_to := fb_tb4 101 rfl rfl
theorem cd_Mo_load : fb_cd fb_Mo_load := fb_tb4 77 rfl rfl
theorem cd_Mo_move : fb_cd fb_Mo_move := fb_tb4 97 rfl rfl
theorem cd_Mo_branch : fb_cd fb_Mo_branch := fb_tb4 109 rfl rfl
theorem cd_Mo_guard : fb_cd fb_Mo_guard := fb_tb4 89 rfl rfl
theorem cd_Mo_arithmetic : fb_cd fb_Mo_arithmetic := fb_tb4 57 rfl rfl
theorem cd_Mo_call : fb_cd fb_Mo_call := fb_tb4 113 rfl rfl
theorem cd_Mo_tests : fb_cd fb_Mo_tests := fb_tb4 105 rfl rfl
theorem cd_Mo_arrays : fb_cd fb_Mo_arrays := fb_tb4 85 rfl rfl
theorem cd_Mo_others : fb_cd fb_Mo_others := fb_tb4 117 rfl rfl
theorem cd_Mo_layOut : fb_cd fb_Mo_layOut := fb_tb4 53 rfl rfl
theorem cd_Mo_branchAt : fb_cd fb_Mo_branchAt := fb_tb4 125 rfl rfl
theorem cd_Mo_stretched : fb_cd fb_Mo_stretched := fb_tb4 121 rfl rfl
theorem cd_Mo_compile : fb_cd fb_Mo_compile := fb_tb4 18 rfl rfl
theorem cd_Mo_length : fb_cd fb_Mo_length := fb_tb4 129 rfl rfl
theorem cd_Mo_code : fb_cd fb_Mo_code := fb_tb4 133 rfl rfl
theorem cd_Mo_longs : fb_cd fb_Mo_longs := fb_tb4 137 rfl rfl
theorem cd_Mo_base : fb_cd fb_Mo_base := fb_tb4 141 rfl rfl
theorem cd_Mo_address : fb_cd fb_Mo_address := fb_tb4 145 rfl rfl
theorem cd_Mo_start : fb_cd fb_Mo_start := fb_tb4 149 rfl rfl
theorem cd_Mo_read : fb_cd fb_Mo_read := fb_tb4 161 rfl rfl
theorem cd_Mo_write : fb_cd fb_Mo_write := fb_tb4 173 rfl rfl
theorem cd_Mo_send : fb_cd fb_Mo_send := fb_tb4 189 rfl rfl
theorem cd_Mo_compute : fb_cd fb_Mo_compute := fb_tb4 193 rfl rfl
theorem cd_Mo_decide : fb_cd fb_Mo_decide := fb_tb4 165 rfl rfl
theorem cd_Mo_touch : fb_cd fb_Mo_touch := fb_tb4 169 rfl rfl
theorem cd_Mo_enter : fb_cd fb_Mo_enter := fb_tb4 177 rfl rfl
theorem cd_Mo_leave : fb_cd fb_Mo_leave := fb_tb4 181 rfl rfl
theorem cd_Mo_step : fb_cd fb_Mo_step := fb_tb4 157 rfl rfl
theorem cd_Mo_straight : fb_cd fb_Mo_straight := fb_tb4 185 rfl rfl
theorem cd_Mo_run : fb_cd fb_Mo_run := fb_tb4 153 rfl rfl
theorem cd_Mo_state : fb_cd fb_Mo_state := fb_tb4 197 rfl rfl
theorem cd_Mo_spent : fb_cd fb_Mo_spent := fb_tb4 201 rfl rfl
theorem cd_Mo_next : fb_cd fb_Mo_next := fb_tb4 205 rfl rfl
theorem cd_Mo_depth : fb_cd fb_Mo_depth := fb_tb4 209 rfl rfl
theorem cd_Mo_value : fb_cd fb_Mo_value := fb_tb4 213 rfl rfl
theorem cd_Mo_output : fb_cd fb_Mo_output := fb_tb4 217 rfl rfl
theorem cd_As_assemble : fb_cd fb_As_assemble := fb_tb2 110 rfl rfl
theorem cd_As_markTargets : fb_cd fb_As_markTargets := fb_tb2 114 rfl rfl
theorem cd_As_lengthenBranches : fb_cd fb_As_lengthenBranches := fb_tb2 219 rfl rfl
theorem cd_As_reachesGoal : fb_cd fb_As_reachesGoal := fb_tb2 223 rfl rfl
theorem cd_As_markLabels : fb_cd fb_As_markLabels := fb_tb2 227 rfl rfl
theorem cd_As_emitProgram : fb_cd fb_As_emitProgram := fb_tb2 123 rfl rfl
theorem cd_As_emitInstruction : fb_cd fb_As_emitInstruction := fb_tb2 127 rfl rfl
theorem cd_As_emitSet : fb_cd fb_As_emitSet := fb_tb2 131 rfl rfl
theorem cd_As_emitMove : fb_cd fb_As_emitMove := fb_tb2 155 rfl rfl
theorem cd_As_emitCombine : fb_cd fb_As_emitCombine := fb_tb2 163 rfl rfl
theorem cd_As_emitDouble : fb_cd fb_As_emitDouble := fb_tb2 167 rfl rfl
theorem cd_As_emitLoad : fb_cd fb_As_emitLoad := fb_tb2 179 rfl rfl
theorem cd_As_emitStore : fb_cd fb_As_emitStore := fb_tb2 183 rfl rfl
theorem cd_As_emitIndex : fb_cd fb_As_emitIndex := fb_tb2 175 rfl rfl
theorem cd_As_emitZero : fb_cd fb_As_emitZero := fb_tb2 191 rfl rfl
theorem cd_As_emitBelow : fb_cd fb_As_emitBelow := fb_tb2 202 rfl rfl
theorem cd_As_emitCall : fb_cd fb_As_emitCall := fb_tb2 206 rfl rfl
theorem cd_As_emitReturn : fb_cd fb_As_emitReturn := fb_tb2 211 rfl rfl
theorem cd_As_emitOut : fb_cd fb_As_emitOut := fb_tb2 215 rfl rfl
theorem cd_As_isWide : fb_cd fb_As_isWide := fb_tb2 171 rfl rfl
theorem cd_As_part : fb_cd fb_As_part := fb_tb2 151 rfl rfl
theorem cd_As_emit : fb_cd fb_As_emit := fb_tb2 136 rfl rfl
theorem cd_As_formOf : fb_cd fb_As_formOf := fb_tb2 139 rfl rfl
theorem cd_As_heldBehind : fb_cd fb_As_heldBehind := fb_tb2 147 rfl rfl
theorem cd_As_emitAlone : fb_cd fb_As_emitAlone := fb_tb2 159 rfl rfl
theorem cd_As_emitJump : fb_cd fb_As_emitJump := fb_tb2 187 rfl rfl
theorem cd_As_emitBranch : fb_cd fb_As_emitBranch := fb_tb2 195 rfl rfl
theorem cd_As_opposite : fb_cd fb_As_opposite := fb_tb2 198 rfl rfl
theorem cd_As_put : fb_cd fb_As_put := fb_tb2 143 rfl rfl
theorem cd_Fr_gatherCalls : fb_cd fb_Fr_gatherCalls := fb_tb2 68 rfl rfl
theorem cd_Fr_hasRecursion : fb_cd fb_Fr_hasRecursion := fb_tb2 72 rfl rfl
theorem cd_Fr_closeCalls : fb_cd fb_Fr_closeCalls := fb_tb2 76 rfl rfl
theorem cd_Fr_findBases : fb_cd fb_Fr_findBases := fb_tb2 80 rfl rfl
theorem cd_Fr_pushCallees : fb_cd fb_Fr_pushCallees := fb_tb2 87 rfl rfl
theorem cd_Fr_endOf : fb_cd fb_Fr_endOf := fb_tb2 91 rfl rfl
theorem cd_Fr_fit : fb_cd fb_Fr_fit := fb_tb2 102 rfl rfl
theorem cd_Fr_placeVariables : fb_cd fb_Fr_placeVariables := fb_tb2 106 rfl rfl
theorem cd_Po_drop : fb_cd fb_Po_drop := fb_tb1 238 rfl rfl
theorem cd_Po_begin : fb_cd fb_Po_begin := fb_tb3 18 rfl rfl
theorem cd_Po_label : fb_cd fb_Po_label := fb_tb3 115 rfl rfl
theorem cd_Po_labelHere : fb_cd fb_Po_labelHere := fb_tb3 99 rfl rfl
theorem cd_Po_perform : fb_cd fb_Po_perform := fb_tb3 27 rfl rfl
theorem cd_Po_performOne : fb_cd fb_Po_performOne := fb_tb3 31 rfl rfl
theorem cd_Po_step : fb_cd fb_Po_step := fb_tb3 35 rfl rfl
theorem cd_Po_fetch : fb_cd fb_Po_fetch := fb_tb3 39 rfl rfl
theorem cd_Po_fetchOperand : fb_cd fb_Po_fetchOperand := fb_tb3 47 rfl rfl
theorem cd_Po_read : fb_cd fb_Po_read := fb_tb3 51 rfl rfl
theorem cd_Po_write : fb_cd fb_Po_write := fb_tb3 59 rfl rfl
theorem cd_Po_doWithData : fb_cd fb_Po_doWithData := fb_tb3 43 rfl rfl
theorem cd_Po_setA : fb_cd fb_Po_setA := fb_tb3 55 rfl rfl
theorem cd_Po_add : fb_cd fb_Po_add := fb_tb3 63 rfl rfl
theorem cd_Po_shift : fb_cd fb_Po_shift := fb_tb3 67 rfl rfl
theorem cd_Po_compare : fb_cd fb_Po_compare := fb_tb3 71 rfl rfl
theorem cd_Po_doBranch : fb_cd fb_Po_doBranch := fb_tb3 75 rfl rfl
theorem cd_Po_branches : fb_cd fb_Po_branches := fb_tb3 79 rfl rfl
theorem cd_Po_doJump : fb_cd fb_Po_doJump := fb_tb3 83 rfl rfl
theorem cd_Po_doAlone : fb_cd fb_Po_doAlone := fb_tb3 87 rfl rfl
theorem cd_Po_doReturn : fb_cd fb_Po_doReturn := fb_tb3 91 rfl rfl
theorem cd_Po_putOut : fb_cd fb_Po_putOut := fb_tb3 95 rfl rfl
theorem cd_Pr_addFunction : fb_cd fb_Pr_addFunction := fb_tb1 226 rfl rfl
theorem cd_Pr_addVariable : fb_cd fb_Pr_addVariable := fb_tb2 6 rfl rfl
theorem cd_Pr_addInstruction : fb_cd fb_Pr_addInstruction := fb_tb2 14 rfl rfl
theorem cd_Pr_suits : fb_cd fb_Pr_suits := fb_tb2 20 rfl rfl
theorem cd_Pr_isScalar : fb_cd fb_Pr_isScalar := fb_tb2 27 rfl rfl
theorem cd_Pr_hasFunction : fb_cd fb_Pr_hasFunction := fb_tb2 60 rfl rfl
theorem cd_Pr_hasInstruction : fb_cd fb_Pr_hasInstruction := fb_tb2 56 rfl rfl
theorem cd_Pr_sizeOf : fb_cd fb_Pr_sizeOf := fb_tb2 24 rfl rfl
theorem cd_Pr_frameSizeOf : fb_cd fb_Pr_frameSizeOf := fb_tb2 95 rfl rfl
theorem cd_Pr_hasTarget : fb_cd fb_Pr_hasTarget := fb_tb2 48 rfl rfl
theorem cd_Pr_targetOf : fb_cd fb_Pr_targetOf := fb_tb2 52 rfl rfl
theorem cd_Pr_goalOf : fb_cd fb_Pr_goalOf := fb_tb2 119 rfl rfl
theorem cd_Pr_isWhole : fb_cd fb_Pr_isWhole := fb_tb2 40 rfl rfl
theorem cd_Pr_hasAllTargets : fb_cd fb_Pr_hasAllTargets := fb_tb2 44 rfl rfl
theorem cd_Pr_hasAllCallees : fb_cd fb_Pr_hasAllCallees := fb_tb2 64 rfl rfl
theorem cd_Ja_fill : fb_cd fb_Ja_fill := fb_tb2 83 rfl rfl
theorem lk_Fb_10 : fb_lk "FrameBackEnd" 10 fb_T0 0 := Or.inl (fb_tb1 203 rfl rfl)
theorem lk_Fb_21 : fb_lk "FrameBackEnd" 21 fb_T0 1 := Or.inl (fb_tb1 204 rfl rfl)
theorem lk_Fb_30 : fb_lk "FrameBackEnd" 30 fb_T0 2 := Or.inl (fb_tb1 205 rfl rfl)
theorem lk_Fb_39 : fb_lk "FrameBackEnd" 39 fb_T0 3 := Or.inl (fb_tb1 206 rfl rfl)
theorem lk_Fb_43 : fb_lk "FrameBackEnd" 43 fb_T0 4 := Or.inl (fb_tb1 207 rfl rfl)
theorem lk_Fb_71 : fb_lk "FrameBackEnd" 71 fb_T3 8 := Or.inr (fb_tn1 120 rfl rfl)
theorem lk_Fb_75 : fb_lk "FrameBackEnd" 75 fb_T3 2 := Or.inr (fb_tn1 111 rfl rfl)
theorem lk_Fb_79 : fb_lk "FrameBackEnd" 79 fb_T3 9 := Or.inr (fb_tn1 123 rfl rfl)
theorem lk_Fb_86 : fb_lk "FrameBackEnd" 86 fb_T2 3 := Or.inr (fb_tn1 86 rfl rfl)
theorem lk_Fb_93 : fb_lk "FrameBackEnd" 93 fb_T3 4 := Or.inr (fb_tn1 116 rfl rfl)
theorem lk_Fb_96 : fb_lk "FrameBackEnd" 96 fb_T1 2 := Or.inr (fb_tn1 31 rfl rfl)
theorem lk_Fb_102 : fb_lk "FrameBackEnd" 102 fb_T4 5 := Or.inr (fb_tn1 166 rfl rfl)
theorem lk_Fb_108 : fb_lk "FrameBackEnd" 108 fb_T4 6 := Or.inr (fb_tn1 168 rfl rfl)
theorem lk_Fb_114 : fb_lk "FrameBackEnd" 114 fb_T4 4 := Or.inr (fb_tn1 164 rfl rfl)
theorem lk_Fb_121 : fb_lk "FrameBackEnd" 121 fb_T4 1 := Or.inr (fb_tn1 159 rfl rfl)
theorem lk_Fb_124 : fb_lk "FrameBackEnd" 124 fb_T2 4 := Or.inr (fb_tn1 89 rfl rfl)
theorem lk_Fb_128 : fb_lk "FrameBackEnd" 128 fb_T4 7 := Or.inr (fb_tn1 170 rfl rfl)
theorem lk_Fb_131 : fb_lk "FrameBackEnd" 131 fb_T4 2 := Or.inr (fb_tn1 161 rfl rfl)
theorem lk_Mo_7 : fb_lk "FrameBackEndModel" 7 fb_T5 2 := Or.inl (fb_tb3 137 rfl rfl)
theorem lk_Mo_13 : fb_lk "FrameBackEndModel" 13 fb_T5 3 := Or.inl (fb_tb3 138 rfl rfl)
theorem lk_Mo_16 : fb_lk "FrameBackEndModel" 16 fb_T5 4 := Or.inl (fb_tb3 139 rfl rfl)
theorem lk_Mo_19 : fb_lk "FrameBackEndModel" 19 fb_T5 5 := Or.inl (fb_tb3 140 rfl rfl)
theorem lk_Mo_22 : fb_lk "FrameBackEndModel" 22 fb_T5 6 := Or.inl (fb_tb3 141 rfl rfl)
theorem lk_Mo_25 : fb_lk "FrameBackEndModel" 25 fb_T5 7 := Or.inl (fb_tb3 142 rfl rfl)
theorem lk_Mo_28 : fb_lk "FrameBackEndModel" 28 fb_T5 8 := Or.inl (fb_tb3 143 rfl rfl)
theorem lk_Mo_31 : fb_lk "FrameBackEndModel" 31 fb_T5 10 := Or.inl (fb_tb3 145 rfl rfl)
theorem lk_Mo_34 : fb_lk "FrameBackEndModel" 34 fb_T5 11 := Or.inl (fb_tb3 146 rfl rfl)
theorem lk_Mo_38 : fb_lk "FrameBackEndModel" 38 fb_T5 12 := Or.inl (fb_tb3 147 rfl rfl)
theorem lk_Mo_41 : fb_lk "FrameBackEndModel" 41 fb_T5 16 := Or.inl (fb_tb3 151 rfl rfl)
theorem lk_Mo_44 : fb_lk "FrameBackEndModel" 44 fb_T5 17 := Or.inl (fb_tb3 152 rfl rfl)
theorem lk_Mo_47 : fb_lk "FrameBackEndModel" 47 fb_T5 18 := Or.inl (fb_tb3 153 rfl rfl)
theorem lk_Mo_50 : fb_lk "FrameBackEndModel" 50 fb_T5 19 := Or.inl (fb_tb3 154 rfl rfl)
theorem lk_Mo_53 : fb_lk "FrameBackEndModel" 53 fb_T5 20 := Or.inl (fb_tb3 155 rfl rfl)
theorem lk_Mo_56 : fb_lk "FrameBackEndModel" 56 fb_T5 27 := Or.inl (fb_tb3 162 rfl rfl)
theorem lk_Mo_59 : fb_lk "FrameBackEndModel" 59 fb_T5 28 := Or.inl (fb_tb3 163 rfl rfl)
theorem lk_Mo_62 : fb_lk "FrameBackEndModel" 62 fb_T5 29 := Or.inl (fb_tb3 164 rfl rfl)
theorem lk_Mo_65 : fb_lk "FrameBackEndModel" 65 fb_T5 9 := Or.inl (fb_tb3 144 rfl rfl)
theorem lk_Mo_69 : fb_lk "FrameBackEndModel" 69 fb_T5 22 := Or.inl (fb_tb3 157 rfl rfl)
theorem lk_Mo_72 : fb_lk "FrameBackEndModel" 72 fb_T5 0 := Or.inl (fb_tb3 135 rfl rfl)
theorem lk_Mo_88 : fb_lk "FrameBackEndModel" 88 fb_T5 1 := Or.inl (fb_tb3 136 rfl rfl)
theorem lk_Mo_109 : fb_lk "FrameBackEndModel" 109 fb_T5 13 := Or.inl (fb_tb3 148 rfl rfl)
theorem lk_Mo_116 : fb_lk "FrameBackEndModel" 116 fb_T5 21 := Or.inl (fb_tb3 156 rfl rfl)
theorem lk_Mo_119 : fb_lk "FrameBackEndModel" 119 fb_T5 15 := Or.inl (fb_tb3 150 rfl rfl)
theorem lk_Mo_191 : fb_lk "FrameBackEndModel" 191 fb_T5 14 := Or.inl (fb_tb3 149 rfl rfl)
theorem lk_Mo_194 : fb_lk "FrameBackEndModel" 194 fb_T5 23 := Or.inl (fb_tb3 158 rfl rfl)
theorem lk_Mo_197 : fb_lk "FrameBackEndModel" 197 fb_T5 24 := Or.inl (fb_tb3 159 rfl rfl)
theorem lk_Mo_200 : fb_lk "FrameBackEndModel" 200 fb_T5 26 := Or.inl (fb_tb3 161 rfl rfl)
theorem lk_Mo_203 : fb_lk "FrameBackEndModel" 203 fb_T5 25 := Or.inl (fb_tb3 160 rfl rfl)
theorem lk_As_9 : fb_lk "FrameBackEnd$Assembler" 9 fb_T3 2 := Or.inl (fb_tb1 110 rfl rfl)
theorem lk_As_15 : fb_lk "FrameBackEnd$Assembler" 15 fb_T3 3 := Or.inl (fb_tb1 113 rfl rfl)
theorem lk_As_18 : fb_lk "FrameBackEnd$Assembler" 18 fb_T3 4 := Or.inl (fb_tb1 115 rfl rfl)
theorem lk_As_21 : fb_lk "FrameBackEnd$Assembler" 21 fb_T3 5 := Or.inl (fb_tb1 117 rfl rfl)
theorem lk_As_24 : fb_lk "FrameBackEnd$Assembler" 24 fb_T3 6 := Or.inl (fb_tb1 118 rfl rfl)
theorem lk_As_28 : fb_lk "FrameBackEnd$Assembler" 28 fb_T3 7 := Or.inl (fb_tb1 119 rfl rfl)
theorem lk_As_31 : fb_lk "FrameBackEnd$Assembler" 31 fb_T3 0 := Or.inl (fb_tb1 108 rfl rfl)
theorem lk_As_35 : fb_lk "FrameBackEnd$Assembler" 35 fb_T3 1 := Or.inl (fb_tb1 109 rfl rfl)
theorem lk_As_42 : fb_lk "FrameBackEnd$Assembler" 42 fb_T3 9 := Or.inl (fb_tb1 122 rfl rfl)
theorem lk_As_56 : fb_lk "FrameBackEnd$Assembler" 56 fb_T1 10 := Or.inr (fb_tn1 50 rfl rfl)
theorem lk_As_69 : fb_lk "FrameBackEnd$Assembler" 69 fb_T1 5 := Or.inr (fb_tn1 38 rfl rfl)
theorem lk_As_81 : fb_lk "FrameBackEnd$Assembler" 81 fb_T1 4 := Or.inr (fb_tn1 35 rfl rfl)
theorem lk_As_84 : fb_lk "FrameBackEnd$Assembler" 84 fb_T1 2 := Or.inr (fb_tn1 30 rfl rfl)
theorem lk_As_87 : fb_lk "FrameBackEnd$Assembler" 87 fb_T3 8 := Or.inl (fb_tb1 121 rfl rfl)
theorem lk_As_90 : fb_lk "FrameBackEnd$Assembler" 90 fb_T3 11 := Or.inl (fb_tb1 125 rfl rfl)
theorem lk_As_93 : fb_lk "FrameBackEnd$Assembler" 93 fb_T3 10 := Or.inl (fb_tb1 124 rfl rfl)
theorem lk_As_96 : fb_lk "FrameBackEnd$Assembler" 96 fb_T1 6 := Or.inr (fb_tn1 41 rfl rfl)
theorem lk_As_99 : fb_lk "FrameBackEnd$Assembler" 99 fb_T1 7 := Or.inr (fb_tn1 43 rfl rfl)
theorem lk_As_102 : fb_lk "FrameBackEnd$Assembler" 102 fb_T1 8 := Or.inr (fb_tn1 45 rfl rfl)
theorem lk_As_170 : fb_lk "FrameBackEnd$Assembler" 170 fb_T2 4 := Or.inr (fb_tn1 88 rfl rfl)
theorem lk_Fr_9 : fb_lk "FrameBackEnd$Frames" 9 fb_T2 1 := Or.inl (fb_tb1 83 rfl rfl)
theorem lk_Fr_15 : fb_lk "FrameBackEnd$Frames" 15 fb_T2 2 := Or.inl (fb_tb1 84 rfl rfl)
theorem lk_Fr_18 : fb_lk "FrameBackEnd$Frames" 18 fb_T2 3 := Or.inl (fb_tb1 85 rfl rfl)
theorem lk_Fr_24 : fb_lk "FrameBackEnd$Frames" 24 fb_T2 4 := Or.inl (fb_tb1 87 rfl rfl)
theorem lk_Fr_27 : fb_lk "FrameBackEnd$Frames" 27 fb_T2 0 := Or.inl (fb_tb1 82 rfl rfl)
theorem lk_Fr_31 : fb_lk "FrameBackEnd$Frames" 31 fb_T1 10 := Or.inr (fb_tn1 49 rfl rfl)
theorem lk_Fr_37 : fb_lk "FrameBackEnd$Frames" 37 fb_T1 5 := Or.inr (fb_tn1 37 rfl rfl)
theorem lk_Fr_40 : fb_lk "FrameBackEnd$Frames" 40 fb_T1 4 := Or.inr (fb_tn1 34 rfl rfl)
theorem lk_Fr_43 : fb_lk "FrameBackEnd$Frames" 43 fb_T1 6 := Or.inr (fb_tn1 40 rfl rfl)
theorem lk_Fr_55 : fb_lk "FrameBackEnd$Frames" 55 fb_T1 9 := Or.inr (fb_tn1 47 rfl rfl)
theorem lk_Fr_75 : fb_lk "FrameBackEnd$Frames" 75 fb_T1 1 := Or.inr (fb_tn1 28 rfl rfl)
theorem lk_Fr_78 : fb_lk "FrameBackEnd$Frames" 78 fb_T1 0 := Or.inr (fb_tn1 26 rfl rfl)
theorem lk_Po_9 : fb_lk "FrameBackEnd$Processor" 9 fb_T4 1 := Or.inl (fb_tb1 158 rfl rfl)
theorem lk_Po_15 : fb_lk "FrameBackEnd$Processor" 15 fb_T4 2 := Or.inl (fb_tb1 160 rfl rfl)
theorem lk_Po_18 : fb_lk "FrameBackEnd$Processor" 18 fb_T4 3 := Or.inl (fb_tb1 162 rfl rfl)
theorem lk_Po_21 : fb_lk "FrameBackEnd$Processor" 21 fb_T4 5 := Or.inl (fb_tb1 165 rfl rfl)
theorem lk_Po_25 : fb_lk "FrameBackEnd$Processor" 25 fb_T4 0 := Or.inl (fb_tb1 157 rfl rfl)
theorem lk_Po_29 : fb_lk "FrameBackEnd$Processor" 29 fb_T4 6 := Or.inl (fb_tb1 167 rfl rfl)
theorem lk_Po_32 : fb_lk "FrameBackEnd$Processor" 32 fb_T4 7 := Or.inl (fb_tb1 169 rfl rfl)
theorem lk_Po_41 : fb_lk "FrameBackEnd$Processor" 41 fb_T4 4 := Or.inl (fb_tb1 163 rfl rfl)
theorem lk_Po_44 : fb_lk "FrameBackEnd$Processor" 44 fb_T4 8 := Or.inl (fb_tb1 171 rfl rfl)
theorem lk_Po_47 : fb_lk "FrameBackEnd$Processor" 47 fb_T4 9 := Or.inl (fb_tb1 172 rfl rfl)
theorem lk_Po_50 : fb_lk "FrameBackEnd$Processor" 50 fb_T4 10 := Or.inl (fb_tb1 173 rfl rfl)
theorem lk_Po_53 : fb_lk "FrameBackEnd$Processor" 53 fb_T4 11 := Or.inl (fb_tb1 174 rfl rfl)
theorem lk_Po_56 : fb_lk "FrameBackEnd$Processor" 56 fb_T4 12 := Or.inl (fb_tb1 175 rfl rfl)
theorem lk_Po_64 : fb_lk "FrameBackEnd$Processor" 64 fb_T3 3 := Or.inr (fb_tn1 114 rfl rfl)
theorem lk_Po_92 : fb_lk "FrameBackEnd$Processor" 92 fb_T3 2 := Or.inr (fb_tn1 112 rfl rfl)
theorem lk_Pr_11 : fb_lk "FrameBackEnd$Program" 11 fb_T1 0 := Or.inl (fb_tb1 25 rfl rfl)
theorem lk_Pr_16 : fb_lk "FrameBackEnd$Program" 16 fb_T1 1 := Or.inl (fb_tb1 27 rfl rfl)
theorem lk_Pr_20 : fb_lk "FrameBackEnd$Program" 20 fb_T1 2 := Or.inl (fb_tb1 29 rfl rfl)
theorem lk_Pr_23 : fb_lk "FrameBackEnd$Program" 23 fb_T1 3 := Or.inl (fb_tb1 32 rfl rfl)
theorem lk_Pr_26 : fb_lk "FrameBackEnd$Program" 26 fb_T1 4 := Or.inl (fb_tb1 33 rfl rfl)
theorem lk_Pr_29 : fb_lk "FrameBackEnd$Program" 29 fb_T1 5 := Or.inl (fb_tb1 36 rfl rfl)
theorem lk_Pr_32 : fb_lk "FrameBackEnd$Program" 32 fb_T1 6 := Or.inl (fb_tb1 39 rfl rfl)
theorem lk_Pr_35 : fb_lk "FrameBackEnd$Program" 35 fb_T1 7 := Or.inl (fb_tb1 42 rfl rfl)
theorem lk_Pr_38 : fb_lk "FrameBackEnd$Program" 38 fb_T1 8 := Or.inl (fb_tb1 44 rfl rfl)
theorem lk_Pr_41 : fb_lk "FrameBackEnd$Program" 41 fb_T1 9 := Or.inl (fb_tb1 46 rfl rfl)
theorem lk_Pr_45 : fb_lk "FrameBackEnd$Program" 45 fb_T1 10 := Or.inl (fb_tb1 48 rfl rfl)
theorem vw_Fb_47 : fb_vw "FrameBackEnd" fb_Pr_addFunction 47 "FrameBackEnd$Program" := ⟨rfl, fb_tb1 223 rfl rfl, fb_tb1 224 rfl rfl, fb_tb1 225 rfl rfl, fb_tb1 2 rfl rfl, cd_Pr_addFunction, by decide +kernel, by decide +kernel, by decide +kernel⟩
theorem vw_Fb_51 : fb_vw "FrameBackEnd" fb_Fb_accepted 51 "FrameBackEnd" := ⟨rfl, fb_tb1 227 rfl rfl, fb_tb1 229 rfl rfl, fb_ts 0 rfl, fb_tb1 1 rfl rfl, cd_Fb_accepted, by decide +kernel, by decide +kernel, by decide +kernel⟩
theorem vw_Fb_55 : fb_vw "FrameBackEnd" fb_Pr_addVariable 55 "FrameBackEnd$Program" := ⟨rfl, fb_tb2 3 rfl rfl, fb_tb2 4 rfl rfl, fb_tb2 5 rfl rfl, fb_tb1 2 rfl rfl, cd_Pr_addVariable, by decide +kernel, by decide +kernel, by decide +kernel⟩
theorem vw_Fb_58 : fb_vw "FrameBackEnd" fb_Pr_addInstruction 58 "FrameBackEnd$Program" := ⟨rfl, fb_tb2 11 rfl rfl, fb_tb2 12 rfl rfl, fb_tb2 13 rfl rfl, fb_tb1 2 rfl rfl, cd_Pr_addInstruction, by decide +kernel, by decide +kernel, by decide +kernel⟩
theorem vw_Fb_62 : fb_vw "FrameBackEnd" fb_Fb_dropCode 62 "FrameBackEnd" := ⟨rfl, fb_tb1 231 rfl rfl, fb_tb1 233 rfl rfl, fb_ts 1 rfl, fb_tb1 1 rfl rfl, cd_Fb_dropCode, by decide +kernel, by decide +kernel, by decide +kernel⟩
theorem vw_Fb_65 : fb_vw "FrameBackEnd" fb_Fb_faultOfProgram 65 "FrameBackEnd" := ⟨rfl, fb_tb2 33 rfl rfl, fb_tb2 35 rfl rfl, fb_ts 3 rfl, fb_tb1 1 rfl rfl, cd_Fb_faultOfProgram, by decide +kernel, by decide +kernel, by decide +kernel⟩
theorem vw_Fb_68 : fb_vw "FrameBackEnd" fb_As_assemble 68 "FrameBackEnd$Assembler" := ⟨rfl, fb_tb2 107 rfl rfl, fb_tb2 108 rfl rfl, fb_tb2 109 rfl rfl, fb_tb1 4 rfl rfl, cd_As_assemble, by decide +kernel, by decide +kernel, by decide +kernel⟩
theorem vw_Fb_82 : fb_vw "FrameBackEnd" fb_Pr_hasFunction 82 "FrameBackEnd$Program" := ⟨rfl, fb_tb3 5 rfl rfl, fb_tb2 58 rfl rfl, fb_tb2 59 rfl rfl, fb_tb1 2 rfl rfl, cd_Pr_hasFunction, by decide +kernel, by decide +kernel, by decide +kernel⟩
theorem vw_Fb_89 : fb_vw "FrameBackEnd" fb_Pr_hasInstruction 89 "FrameBackEnd$Program" := ⟨rfl, fb_tb3 10 rfl rfl, fb_tb2 54 rfl rfl, fb_tb2 55 rfl rfl, fb_tb1 2 rfl rfl, cd_Pr_hasInstruction, by decide +kernel, by decide +kernel, by decide +kernel⟩
theorem vw_Fb_99 : fb_vw "FrameBackEnd" fb_Po_begin 99 "FrameBackEnd$Processor" := ⟨rfl, fb_tb3 15 rfl rfl, fb_tb3 16 rfl rfl, fb_tb3 17 rfl rfl, fb_tb1 5 rfl rfl, cd_Po_begin, by decide +kernel, by decide +kernel, by decide +kernel⟩
theorem vw_Fb_105 : fb_vw "FrameBackEnd" fb_Po_perform 105 "FrameBackEnd$Processor" := ⟨rfl, fb_tb3 24 rfl rfl, fb_tb3 25 rfl rfl, fb_tb3 26 rfl rfl, fb_tb1 5 rfl rfl, cd_Po_perform, by decide +kernel, by decide +kernel, by decide +kernel⟩
theorem vw_Fb_111 : fb_vw "FrameBackEnd" fb_Po_label 111 "FrameBackEnd$Processor" := ⟨rfl, fb_tb3 112 rfl rfl, fb_tb3 113 rfl rfl, fb_tb3 114 rfl rfl, fb_tb1 5 rfl rfl, cd_Po_label, by decide +kernel, by decide +kernel, by decide +kernel⟩
theorem vw_Fb_117 : fb_vw "FrameBackEnd" fb_Pr_sizeOf 117 "FrameBackEnd$Program" := ⟨rfl, fb_tb3 124 rfl rfl, fb_tb2 22 rfl rfl, fb_tb2 23 rfl rfl, fb_tb1 2 rfl rfl, cd_Pr_sizeOf, by decide +kernel, by decide +kernel, by decide +kernel⟩
theorem vw_Fb_134 : fb_vw "FrameBackEnd" fb_Po_drop 134 "FrameBackEnd$Processor" := ⟨rfl, fb_tb1 235 rfl rfl, fb_tb1 236 rfl rfl, fb_tb1 237 rfl rfl, fb_tb1 5 rfl rfl, cd_Po_drop, by decide +kernel, by decide +kernel, by decide +kernel⟩
theorem vw_Fb_137 : fb_vw "FrameBackEnd" fb_Pr_isWhole 137 "FrameBackEnd$Program" := ⟨rfl, fb_tb2 37 rfl rfl, fb_tb2 38 rfl rfl, fb_tb2 39 rfl rfl, fb_tb1 2 rfl rfl, cd_Pr_isWhole, by decide +kernel, by decide +kernel, by decide +kernel⟩
theorem vw_Fb_141 : fb_vw "FrameBackEnd" fb_Pr_hasAllTargets 141 "FrameBackEnd$Program" := ⟨rfl, fb_tb2 41 rfl rfl, fb_tb2 42 rfl rfl, fb_tb2 43 rfl rfl, fb_tb1 2 rfl rfl, cd_Pr_hasAllTargets, by decide +kernel, by decide +kernel, by decide +kernel⟩
theorem vw_Fb_144 : fb_vw "FrameBackEnd" fb_Pr_hasAllCallees 144 "FrameBackEnd$Program" := ⟨rfl, fb_tb2 61 rfl rfl, fb_tb2 62 rfl rfl, fb_tb2 63 rfl rfl, fb_tb1 2 rfl rfl, cd_Pr_hasAllCallees, by decide +kernel, by decide +kernel, by decide +kernel⟩
theorem vw_Fb_147 : fb_vw "FrameBackEnd" fb_Fr_gatherCalls 147 "FrameBackEnd$Frames" := ⟨rfl, fb_tb2 65 rfl rfl, fb_tb2 66 rfl rfl, fb_tb2 67 rfl rfl, fb_tb1 3 rfl rfl, cd_Fr_gatherCalls, by decide +kernel, by decide +kernel, by decide +kernel⟩
theorem vw_Fb_150 : fb_vw "FrameBackEnd" fb_Fr_hasRecursion 150 "FrameBackEnd$Frames" := ⟨rfl, fb_tb2 69 rfl rfl, fb_tb2 70 rfl rfl, fb_tb2 71 rfl rfl, fb_tb1 3 rfl rfl, cd_Fr_hasRecursion, by decide +kernel, by decide +kernel, by decide +kernel⟩
theorem vw_Fb_153 : fb_vw "FrameBackEnd" fb_Fr_findBases 153 "FrameBackEnd$Frames" := ⟨rfl, fb_tb2 77 rfl rfl, fb_tb2 78 rfl rfl, fb_tb2 79 rfl rfl, fb_tb1 3 rfl rfl, cd_Fr_findBases, by decide +kernel, by decide +kernel, by decide +kernel⟩
theorem vw_Fb_156 : fb_vw "FrameBackEnd" fb_Fr_fit 156 "FrameBackEnd$Frames" := ⟨rfl, fb_tb2 99 rfl rfl, fb_tb2 100 rfl rfl, fb_tb2 101 rfl rfl, fb_tb1 3 rfl rfl, cd_Fr_fit, by decide +kernel, by decide +kernel, by decide +kernel⟩
theorem vw_Fb_159 : fb_vw "FrameBackEnd" fb_Fr_placeVariables 159 "FrameBackEnd$Frames" := ⟨rfl, fb_tb2 103 rfl rfl, fb_tb2 104 rfl rfl, fb_tb2 105 rfl rfl, fb_tb1 3 rfl rfl, cd_Fr_placeVariables, by decide +kernel, by decide +kernel, by decide +kernel⟩
theorem vw_Mo_76 : fb_vw "FrameBackEndModel" fb_Mo_change 76 "FrameBackEndModel" := ⟨rfl, fb_tb3 230 rfl rfl, fb_tb3 232 rfl rfl, fb_ts 51 rfl, fb_tb1 6 rfl rfl, cd_Mo_change, by decide +kernel, by decide +kernel, by decide +kernel⟩
theorem vw_Mo_79 : fb_vw "FrameBackEndModel" fb_Mo_is 79 "FrameBackEndModel" := ⟨rfl, fb_tb4 10 rfl rfl, fb_tb4 12 rfl rfl, fb_ts 54 rfl, fb_tb1 6 rfl rfl, cd_Mo_is, by decide +kernel, by decide +kernel, by decide +kernel⟩
theorem vw_Mo_83 : fb_vw "FrameBackEndModel" fb_Mo_scalar 83 "FrameBackEndModel" := ⟨rfl, fb_tb4 6 rfl rfl, fb_tb4 8 rfl rfl, fb_ts 53 rfl, fb_tb1 6 rfl rfl, cd_Mo_scalar, by decide +kernel, by decide +kernel, by decide +kernel⟩
theorem cn_Mo_87 : Cond.constant "FrameBackEndModel" 87 (Int32.ofInt 65535) ∈ fb_WA := fb_tb4 14 rfl rfl
theorem vw_Mo_91 : fb_vw "FrameBackEndModel" fb_Mo_fine 91 "FrameBackEndModel" := ⟨rfl, fb_tb4 2 rfl rfl, fb_tb4 4 rfl rfl, fb_ts 52 rfl, fb_tb1 6 rfl rfl, cd_Mo_fine, by decide +kernel, by decide +kernel, by decide +kernel⟩
theorem sw_Mo_95 : fb_sw "FrameBackEndModel" fb_Mo_branches 95 := ⟨fb_tb4 27 rfl rfl, fb_tb4 28 rfl rfl, fb_tb1 6 rfl rfl, cd_Mo_branches, by decide +kernel, by decide +kernel, by decide +kernel⟩
theorem vw_Mo_98 : fb_vw "FrameBackEndModel" fb_Mo_goal 98 "FrameBackEndModel" := ⟨rfl, fb_tb4 30 rfl rfl, fb_tb4 32 rfl rfl, fb_ts 57 rfl, fb_tb1 6 rfl rfl, cd_Mo_goal, by decide +kernel, by decide +kernel, by decide +kernel⟩
theorem vw_Mo_102 : fb_vw "FrameBackEndModel" fb_Mo_end 102 "FrameBackEndModel" := ⟨rfl, fb_tb4 46 rfl rfl, fb_tb4 48 rfl rfl, fb_ts 61 rfl, fb_tb1 6 rfl rfl, cd_Mo_end, by decide +kernel, by decide +kernel, by decide +kernel⟩
theorem vw_Mo_105 : fb_vw "FrameBackEndModel" fb_Mo_place 105 "FrameBackEndModel" := ⟨rfl, fb_tb4 70 rfl rfl, fb_tb4 72 rfl rfl, fb_ts 67 rfl, fb_tb1 6 rfl rfl, cd_Mo_place, by decide +kernel, by decide +kernel, by decide +kernel⟩
theorem vw_Mo_112 : fb_vw "FrameBackEndModel" fb_Mo_put 112 "FrameBackEndModel" := ⟨rfl, fb_tb4 62 rfl rfl, fb_tb4 64 rfl rfl, fb_ts 65 rfl, fb_tb1 6 rfl rfl, cd_Mo_put, by decide +kernel, by decide +kernel, by decide +kernel⟩
theorem vw_Mo_122 : fb_vw "FrameBackEndModel" fb_Mo_with 122 "FrameBackEndModel" := ⟨rfl, fb_tb4 78 rfl rfl, fb_tb4 80 rfl rfl, fb_ts 69 rfl, fb_tb1 6 rfl rfl, cd_Mo_with, by decide +kernel, by decide +kernel, by decide +kernel⟩
theorem vw_Mo_126 : fb_vw "FrameBackEndModel" fb_Mo_load 126 "FrameBackEndModel" := ⟨rfl, fb_tb4 74 rfl rfl, fb_tb4 76 rfl rfl, fb_ts 68 rfl, fb_tb1 6 rfl rfl, cd_Mo_load, by decide +kernel, by decide +kernel, by decide +kernel⟩
theorem vw_Mo_129 : fb_vw "FrameBackEndModel" fb_Mo_to 129 "FrameBackEndModel" := ⟨rfl, fb_tb4 98 rfl rfl, fb_tb4 100 rfl rfl, fb_ts 74 rfl, fb_tb1 6 rfl rfl, cd_Mo_to, by decide +kernel, by decide +kernel, by decide +kernel⟩
theorem vw_Mo_132 : fb_vw "FrameBackEndModel" fb_Mo_plain 132 "FrameBackEndModel" := ⟨rfl, fb_tb4 58 rfl rfl, fb_tb4 60 rfl rfl, fb_ts 64 rfl, fb_tb1 6 rfl rfl, cd_Mo_plain, by decide +kernel, by decide +kernel, by decide +kernel⟩
theorem vw_Mo_135 : fb_vw "FrameBackEndModel" fb_Mo_part 135 "FrameBackEndModel" := ⟨rfl, fb_tb4 66 rfl rfl, fb_tb4 68 rfl rfl, fb_ts 66 rfl, fb_tb1 6 rfl rfl, cd_Mo_part, by decide +kernel, by decide +kernel, by decide +kernel⟩
theorem vw_Mo_139 : fb_vw "FrameBackEndModel" fb_Mo_move 139 "FrameBackEndModel" := ⟨rfl, fb_tb4 94 rfl rfl, fb_tb4 96 rfl rfl, fb_ts 73 rfl, fb_tb1 6 rfl rfl, cd_Mo_move, by decide +kernel, by decide +kernel, by decide +kernel⟩
theorem vw_Mo_142 : fb_vw "FrameBackEndModel" fb_Mo_branch 142 "FrameBackEndModel" := ⟨rfl, fb_tb4 106 rfl rfl, fb_tb4 108 rfl rfl, fb_ts 76 rfl, fb_tb1 6 rfl rfl, cd_Mo_branch, by decide +kernel, by decide +kernel, by decide +kernel⟩
theorem vw_Mo_145 : fb_vw "FrameBackEndModel" fb_Mo_guard 145 "FrameBackEndModel" := ⟨rfl, fb_tb4 86 rfl rfl, fb_tb4 88 rfl rfl, fb_ts 71 rfl, fb_tb1 6 rfl rfl, cd_Mo_guard, by decide +kernel, by decide +kernel, by decide +kernel⟩
theorem vw_Mo_148 : fb_vw "FrameBackEndModel" fb_Mo_indexed 148 "FrameBackEndModel" := ⟨rfl, fb_tb4 90 rfl rfl, fb_tb4 92 rfl rfl, fb_ts 72 rfl, fb_tb1 6 rfl rfl, cd_Mo_indexed, by decide +kernel, by decide +kernel, by decide +kernel⟩
theorem vw_Mo_151 : fb_vw "FrameBackEndModel" fb_Mo_arithmetic 151 "FrameBackEndModel" := ⟨rfl, fb_tb4 54 rfl rfl, fb_tb4 56 rfl rfl, fb_ts 63 rfl, fb_tb1 6 rfl rfl, cd_Mo_arithmetic, by decide +kernel, by decide +kernel, by decide +kernel⟩
theorem vw_Mo_154 : fb_vw "FrameBackEndModel" fb_Mo_arrays 154 "FrameBackEndModel" := ⟨rfl, fb_tb4 82 rfl rfl, fb_tb4 84 rfl rfl, fb_ts 70 rfl, fb_tb1 6 rfl rfl, cd_Mo_arrays, by decide +kernel, by decide +kernel, by decide +kernel⟩
theorem vw_Mo_157 : fb_vw "FrameBackEndModel" fb_Mo_tests 157 "FrameBackEndModel" := ⟨rfl, fb_tb4 102 rfl rfl, fb_tb4 104 rfl rfl, fb_ts 75 rfl, fb_tb1 6 rfl rfl, cd_Mo_tests, by decide +kernel, by decide +kernel, by decide +kernel⟩
theorem vw_Mo_160 : fb_vw "FrameBackEndModel" fb_Mo_call 160 "FrameBackEndModel" := ⟨rfl, fb_tb4 110 rfl rfl, fb_tb4 112 rfl rfl, fb_ts 77 rfl, fb_tb1 6 rfl rfl, cd_Mo_call, by decide +kernel, by decide +kernel, by decide +kernel⟩
theorem vw_Mo_163 : fb_vw "FrameBackEndModel" fb_Mo_others 163 "FrameBackEndModel" := ⟨rfl, fb_tb4 114 rfl rfl, fb_tb4 116 rfl rfl, fb_ts 78 rfl, fb_tb1 6 rfl rfl, cd_Mo_others, by decide +kernel, by decide +kernel, by decide +kernel⟩
theorem vw_Mo_166 : fb_vw "FrameBackEndModel" fb_Mo_branchAt 166 "FrameBackEndModel" := ⟨rfl, fb_tb4 122 rfl rfl, fb_tb4 124 rfl rfl, fb_ts 80 rfl, fb_tb1 6 rfl rfl, cd_Mo_branchAt, by decide +kernel, by decide +kernel, by decide +kernel⟩
theorem vw_Mo_169 : fb_vw "FrameBackEndModel" fb_Mo_ended 169 "FrameBackEndModel" := ⟨rfl, fb_tb4 19 rfl rfl, fb_tb4 21 rfl rfl, fb_ts 55 rfl, fb_tb1 6 rfl rfl, cd_Mo_ended, by decide +kernel, by decide +kernel, by decide +kernel⟩
theorem vw_Mo_173 : fb_vw "FrameBackEndModel" fb_Mo_aimed 173 "FrameBackEndModel" := ⟨rfl, fb_tb4 23 rfl rfl, fb_tb4 25 rfl rfl, fb_ts 56 rfl, fb_tb1 6 rfl rfl, cd_Mo_aimed, by decide +kernel, by decide +kernel, by decide +kernel⟩
theorem vw_Mo_176 : fb_vw "FrameBackEndModel" fb_Mo_called 176 "FrameBackEndModel" := ⟨rfl, fb_tb4 34 rfl rfl, fb_tb4 36 rfl rfl, fb_ts 58 rfl, fb_tb1 6 rfl rfl, cd_Mo_called, by decide +kernel, by decide +kernel, by decide +kernel⟩
theorem vw_Mo_179 : fb_vw "FrameBackEndModel" fb_Mo_rings 179 "FrameBackEndModel" := ⟨rfl, fb_tb4 38 rfl rfl, fb_tb4 40 rfl rfl, fb_ts 59 rfl, fb_tb1 6 rfl rfl, cd_Mo_rings, by decide +kernel, by decide +kernel, by decide +kernel⟩
theorem vw_Mo_182 : fb_vw "FrameBackEndModel" fb_Mo_framed 182 "FrameBackEndModel" := ⟨rfl, fb_tb4 42 rfl rfl, fb_tb4 44 rfl rfl, fb_ts 60 rfl, fb_tb1 6 rfl rfl, cd_Mo_framed, by decide +kernel, by decide +kernel, by decide +kernel⟩
theorem vw_Mo_185 : fb_vw "FrameBackEndModel" fb_Mo_layOut 185 "FrameBackEndModel" := ⟨rfl, fb_tb4 50 rfl rfl, fb_tb4 52 rfl rfl, fb_ts 62 rfl, fb_tb1 6 rfl rfl, cd_Mo_layOut, by decide +kernel, by decide +kernel, by decide +kernel⟩
theorem vw_Mo_188 : fb_vw "FrameBackEndModel" fb_Mo_stretched 188 "FrameBackEndModel" := ⟨rfl, fb_tb4 118 rfl rfl, fb_tb4 120 rfl rfl, fb_ts 79 rfl, fb_tb1 6 rfl rfl, cd_Mo_stretched, by decide +kernel, by decide +kernel, by decide +kernel⟩
theorem vw_Mo_206 : fb_vw "FrameBackEndModel" fb_Mo_read 206 "FrameBackEndModel" := ⟨rfl, fb_tb4 158 rfl rfl, fb_tb4 160 rfl rfl, fb_ts 82 rfl, fb_tb1 6 rfl rfl, cd_Mo_read, by decide +kernel, by decide +kernel, by decide +kernel⟩
theorem vw_Mo_209 : fb_vw "FrameBackEndModel" fb_Mo_write 209 "FrameBackEndModel" := ⟨rfl, fb_tb4 170 rfl rfl, fb_tb4 172 rfl rfl, fb_ts 85 rfl, fb_tb1 6 rfl rfl, cd_Mo_write, by decide +kernel, by decide +kernel, by decide +kernel⟩
theorem vw_Mo_213 : fb_vw "FrameBackEndModel" fb_Mo_decide 213 "FrameBackEndModel" := ⟨rfl, fb_tb4 162 rfl rfl, fb_tb4 164 rfl rfl, fb_ts 83 rfl, fb_tb1 6 rfl rfl, cd_Mo_decide, by decide +kernel, by decide +kernel, by decide +kernel⟩
theorem vw_Mo_217 : fb_vw "FrameBackEndModel" fb_Mo_touch 217 "FrameBackEndModel" := ⟨rfl, fb_tb4 166 rfl rfl, fb_tb4 168 rfl rfl, fb_ts 84 rfl, fb_tb1 6 rfl rfl, cd_Mo_touch, by decide +kernel, by decide +kernel, by decide +kernel⟩
theorem vw_Mo_220 : fb_vw "FrameBackEndModel" fb_Mo_enter 220 "FrameBackEndModel" := ⟨rfl, fb_tb4 174 rfl rfl, fb_tb4 176 rfl rfl, fb_ts 86 rfl, fb_tb1 6 rfl rfl, cd_Mo_enter, by decide +kernel, by decide +kernel, by decide +kernel⟩
theorem vw_Mo_223 : fb_vw "FrameBackEndModel" fb_Mo_leave 223 "FrameBackEndModel" := ⟨rfl, fb_tb4 178 rfl rfl, fb_tb4 180 rfl rfl, fb_ts 87 rfl, fb_tb1 6 rfl rfl, cd_Mo_leave, by decide +kernel, by decide +kernel, by decide +kernel⟩
theorem vw_Mo_226 : fb_vw "FrameBackEndModel" fb_Mo_straight 226 "FrameBackEndModel" := ⟨rfl, fb_tb4 182 rfl rfl, fb_tb4 184 rfl rfl, fb_ts 88 rfl, fb_tb1 6 rfl rfl, cd_Mo_straight, by decide +kernel, by decide +kernel, by decide +kernel⟩
theorem vw_Mo_229 : fb_vw "FrameBackEndModel" fb_Mo_send 229 "FrameBackEndModel" := ⟨rfl, fb_tb4 186 rfl rfl, fb_tb4 188 rfl rfl, fb_ts 89 rfl, fb_tb1 6 rfl rfl, cd_Mo_send, by decide +kernel, by decide +kernel, by decide +kernel⟩
theorem vw_Mo_232 : fb_vw "FrameBackEndModel" fb_Mo_compute 232 "FrameBackEndModel" := ⟨rfl, fb_tb4 190 rfl rfl, fb_tb4 192 rfl rfl, fb_ts 90 rfl, fb_tb1 6 rfl rfl, cd_Mo_compute, by decide +kernel, by decide +kernel, by decide +kernel⟩
theorem vw_Mo_235 : fb_vw "FrameBackEndModel" fb_Mo_step 235 "FrameBackEndModel" := ⟨rfl, fb_tb4 154 rfl rfl, fb_tb4 156 rfl rfl, fb_ts 81 rfl, fb_tb1 6 rfl rfl, cd_Mo_step, by decide +kernel, by decide +kernel, by decide +kernel⟩
theorem vw_As_39 : fb_vw "FrameBackEnd$Assembler" fb_As_markTargets 39 "FrameBackEnd$Assembler" := ⟨rfl, fb_tb2 111 rfl rfl, fb_tb2 113 rfl rfl, fb_ts 7 rfl, fb_tb1 4 rfl rfl, cd_As_markTargets, by decide +kernel, by decide +kernel, by decide +kernel⟩
theorem vw_As_46 : fb_vw "FrameBackEnd$Assembler" fb_As_emitProgram 46 "FrameBackEnd$Assembler" := ⟨rfl, fb_tb2 120 rfl rfl, fb_tb2 122 rfl rfl, fb_ts 8 rfl, fb_tb1 4 rfl rfl, cd_As_emitProgram, by decide +kernel, by decide +kernel, by decide +kernel⟩
theorem vw_As_49 : fb_vw "FrameBackEnd$Assembler" fb_As_lengthenBranches 49 "FrameBackEnd$Assembler" := ⟨rfl, fb_tb2 216 rfl rfl, fb_tb2 218 rfl rfl, fb_ts 30 rfl, fb_tb1 4 rfl rfl, cd_As_lengthenBranches, by decide +kernel, by decide +kernel, by decide +kernel⟩
theorem vw_As_53 : fb_vw "FrameBackEnd$Assembler" fb_As_markLabels 53 "FrameBackEnd$Assembler" := ⟨rfl, fb_tb2 224 rfl rfl, fb_tb2 226 rfl rfl, fb_ts 32 rfl, fb_tb1 4 rfl rfl, cd_As_markLabels, by decide +kernel, by decide +kernel, by decide +kernel⟩
theorem vw_As_61 : fb_vw "FrameBackEnd$Assembler" fb_Pr_hasTarget 61 "FrameBackEnd$Program" := ⟨rfl, fb_tb2 115 rfl rfl, fb_tb2 46 rfl rfl, fb_tb2 47 rfl rfl, fb_tb1 2 rfl rfl, cd_Pr_hasTarget, by decide +kernel, by decide +kernel, by decide +kernel⟩
theorem vw_As_65 : fb_vw "FrameBackEnd$Assembler" fb_Pr_goalOf 65 "FrameBackEnd$Program" := ⟨rfl, fb_tb2 116 rfl rfl, fb_tb2 117 rfl rfl, fb_tb2 118 rfl rfl, fb_tb1 2 rfl rfl, cd_Pr_goalOf, by decide +kernel, by decide +kernel, by decide +kernel⟩
theorem vw_As_72 : fb_vw "FrameBackEnd$Assembler" fb_As_reachesGoal 72 "FrameBackEnd$Assembler" := ⟨rfl, fb_tb2 220 rfl rfl, fb_tb2 222 rfl rfl, fb_ts 31 rfl, fb_tb1 4 rfl rfl, cd_As_reachesGoal, by decide +kernel, by decide +kernel, by decide +kernel⟩
theorem sw_As_75 : fb_sw "FrameBackEnd$Assembler" fb_Ja_fill 75 := ⟨fb_tb2 228 rfl rfl, fb_tb2 82 rfl rfl, fb_tb1 7 rfl rfl, cd_Ja_fill, by decide +kernel, by decide +kernel, by decide +kernel⟩
theorem vw_As_105 : fb_vw "FrameBackEnd$Assembler" fb_As_emitInstruction 105 "FrameBackEnd$Assembler" := ⟨rfl, fb_tb2 124 rfl rfl, fb_tb2 126 rfl rfl, fb_ts 9 rfl, fb_tb1 4 rfl rfl, cd_As_emitInstruction, by decide +kernel, by decide +kernel, by decide +kernel⟩
theorem vw_As_109 : fb_vw "FrameBackEnd$Assembler" fb_As_emitSet 109 "FrameBackEnd$Assembler" := ⟨rfl, fb_tb2 128 rfl rfl, fb_tb2 130 rfl rfl, fb_ts 10 rfl, fb_tb1 4 rfl rfl, cd_As_emitSet, by decide +kernel, by decide +kernel, by decide +kernel⟩
theorem vw_As_113 : fb_vw "FrameBackEnd$Assembler" fb_As_emitMove 113 "FrameBackEnd$Assembler" := ⟨rfl, fb_tb2 152 rfl rfl, fb_tb2 154 rfl rfl, fb_ts 15 rfl, fb_tb1 4 rfl rfl, cd_As_emitMove, by decide +kernel, by decide +kernel, by decide +kernel⟩
theorem vw_As_116 : fb_vw "FrameBackEnd$Assembler" fb_As_emitAlone 116 "FrameBackEnd$Assembler" := ⟨rfl, fb_tb2 156 rfl rfl, fb_tb2 158 rfl rfl, fb_ts 16 rfl, fb_tb1 4 rfl rfl, cd_As_emitAlone, by decide +kernel, by decide +kernel, by decide +kernel⟩
theorem vw_As_120 : fb_vw "FrameBackEnd$Assembler" fb_As_emitCombine 120 "FrameBackEnd$Assembler" := ⟨rfl, fb_tb2 160 rfl rfl, fb_tb2 162 rfl rfl, fb_ts 17 rfl, fb_tb1 4 rfl rfl, cd_As_emitCombine, by decide +kernel, by decide +kernel, by decide +kernel⟩
theorem vw_As_123 : fb_vw "FrameBackEnd$Assembler" fb_As_emitDouble 123 "FrameBackEnd$Assembler" := ⟨rfl, fb_tb2 164 rfl rfl, fb_tb2 166 rfl rfl, fb_ts 18 rfl, fb_tb1 4 rfl rfl, cd_As_emitDouble, by decide +kernel, by decide +kernel, by decide +kernel⟩
theorem vw_As_126 : fb_vw "FrameBackEnd$Assembler" fb_As_emitIndex 126 "FrameBackEnd$Assembler" := ⟨rfl, fb_tb2 172 rfl rfl, fb_tb2 174 rfl rfl, fb_ts 20 rfl, fb_tb1 4 rfl rfl, cd_As_emitIndex, by decide +kernel, by decide +kernel, by decide +kernel⟩
theorem vw_As_129 : fb_vw "FrameBackEnd$Assembler" fb_As_emitLoad 129 "FrameBackEnd$Assembler" := ⟨rfl, fb_tb2 176 rfl rfl, fb_tb2 178 rfl rfl, fb_ts 21 rfl, fb_tb1 4 rfl rfl, cd_As_emitLoad, by decide +kernel, by decide +kernel, by decide +kernel⟩
theorem vw_As_132 : fb_vw "FrameBackEnd$Assembler" fb_As_emitStore 132 "FrameBackEnd$Assembler" := ⟨rfl, fb_tb2 180 rfl rfl, fb_tb2 182 rfl rfl, fb_ts 22 rfl, fb_tb1 4 rfl rfl, cd_As_emitStore, by decide +kernel, by decide +kernel, by decide +kernel⟩
theorem vw_As_135 : fb_vw "FrameBackEnd$Assembler" fb_As_emitJump 135 "FrameBackEnd$Assembler" := ⟨rfl, fb_tb2 184 rfl rfl, fb_tb2 186 rfl rfl, fb_ts 23 rfl, fb_tb1 4 rfl rfl, cd_As_emitJump, by decide +kernel, by decide +kernel, by decide +kernel⟩
theorem vw_As_138 : fb_vw "FrameBackEnd$Assembler" fb_As_emitZero 138 "FrameBackEnd$Assembler" := ⟨rfl, fb_tb2 188 rfl rfl, fb_tb2 190 rfl rfl, fb_ts 24 rfl, fb_tb1 4 rfl rfl, cd_As_emitZero, by decide +kernel, by decide +kernel, by decide +kernel⟩
theorem vw_As_141 : fb_vw "FrameBackEnd$Assembler" fb_As_emitBranch 141 "FrameBackEnd$Assembler" := ⟨rfl, fb_tb2 192 rfl rfl, fb_tb2 194 rfl rfl, fb_ts 25 rfl, fb_tb1 4 rfl rfl, cd_As_emitBranch, by decide +kernel, by decide +kernel, by decide +kernel⟩
theorem vw_As_144 : fb_vw "FrameBackEnd$Assembler" fb_As_emitBelow 144 "FrameBackEnd$Assembler" := ⟨rfl, fb_tb2 199 rfl rfl, fb_tb2 201 rfl rfl, fb_ts 26 rfl, fb_tb1 4 rfl rfl, cd_As_emitBelow, by decide +kernel, by decide +kernel, by decide +kernel⟩
theorem vw_As_147 : fb_vw "FrameBackEnd$Assembler" fb_As_emitCall 147 "FrameBackEnd$Assembler" := ⟨rfl, fb_tb2 203 rfl rfl, fb_tb2 205 rfl rfl, fb_ts 27 rfl, fb_tb1 4 rfl rfl, cd_As_emitCall, by decide +kernel, by decide +kernel, by decide +kernel⟩
theorem vw_As_151 : fb_vw "FrameBackEnd$Assembler" fb_As_emitReturn 151 "FrameBackEnd$Assembler" := ⟨rfl, fb_tb2 208 rfl rfl, fb_tb2 210 rfl rfl, fb_ts 28 rfl, fb_tb1 4 rfl rfl, cd_As_emitReturn, by decide +kernel, by decide +kernel, by decide +kernel⟩
theorem vw_As_154 : fb_vw "FrameBackEnd$Assembler" fb_As_emitOut 154 "FrameBackEnd$Assembler" := ⟨rfl, fb_tb2 212 rfl rfl, fb_tb2 214 rfl rfl, fb_ts 29 rfl, fb_tb1 4 rfl rfl, cd_As_emitOut, by decide +kernel, by decide +kernel, by decide +kernel⟩
theorem vw_As_157 : fb_vw "FrameBackEnd$Assembler" fb_Pr_sizeOf 157 "FrameBackEnd$Program" := ⟨rfl, fb_tb2 132 rfl rfl, fb_tb2 22 rfl rfl, fb_tb2 23 rfl rfl, fb_tb1 2 rfl rfl, cd_Pr_sizeOf, by decide +kernel, by decide +kernel, by decide +kernel⟩
theorem vw_As_161 : fb_vw "FrameBackEnd$Assembler" fb_As_emit 161 "FrameBackEnd$Assembler" := ⟨rfl, fb_tb2 133 rfl rfl, fb_tb2 135 rfl rfl, fb_ts 11 rfl, fb_tb1 4 rfl rfl, cd_As_emit, by decide +kernel, by decide +kernel, by decide +kernel⟩
theorem vw_As_164 : fb_vw "FrameBackEnd$Assembler" fb_As_part 164 "FrameBackEnd$Assembler" := ⟨rfl, fb_tb2 148 rfl rfl, fb_tb2 150 rfl rfl, fb_ts 14 rfl, fb_tb1 4 rfl rfl, cd_As_part, by decide +kernel, by decide +kernel, by decide +kernel⟩
theorem vw_As_167 : fb_vw "FrameBackEnd$Assembler" fb_As_isWide 167 "FrameBackEnd$Assembler" := ⟨rfl, fb_tb2 168 rfl rfl, fb_tb2 170 rfl rfl, fb_ts 19 rfl, fb_tb1 4 rfl rfl, cd_As_isWide, by decide +kernel, by decide +kernel, by decide +kernel⟩
theorem vw_As_176 : fb_vw "FrameBackEnd$Assembler" fb_As_put 176 "FrameBackEnd$Assembler" := ⟨rfl, fb_tb2 140 rfl rfl, fb_tb2 142 rfl rfl, fb_ts 12 rfl, fb_tb1 4 rfl rfl, cd_As_put, by decide +kernel, by decide +kernel, by decide +kernel⟩
theorem sw_As_179 : fb_sw "FrameBackEnd$Assembler" fb_Pr_isScalar 179 := ⟨fb_tb2 207 rfl rfl, fb_tb2 26 rfl rfl, fb_tb1 2 rfl rfl, cd_Pr_isScalar, by decide +kernel, by decide +kernel, by decide +kernel⟩
theorem sw_As_182 : fb_sw "FrameBackEnd$Assembler" fb_As_formOf 182 := ⟨fb_tb2 137 rfl rfl, fb_tb2 138 rfl rfl, fb_tb1 4 rfl rfl, cd_As_formOf, by decide +kernel, by decide +kernel, by decide +kernel⟩
theorem vw_As_185 : fb_vw "FrameBackEnd$Assembler" fb_As_heldBehind 185 "FrameBackEnd$Assembler" := ⟨rfl, fb_tb2 144 rfl rfl, fb_tb2 146 rfl rfl, fb_ts 13 rfl, fb_tb1 4 rfl rfl, cd_As_heldBehind, by decide +kernel, by decide +kernel, by decide +kernel⟩
theorem sw_As_188 : fb_sw "FrameBackEnd$Assembler" fb_As_opposite 188 := ⟨fb_tb2 196 rfl rfl, fb_tb2 197 rfl rfl, fb_tb1 4 rfl rfl, cd_As_opposite, by decide +kernel, by decide +kernel, by decide +kernel⟩
theorem vw_Fr_46 : fb_vw "FrameBackEnd$Frames" fb_Fr_closeCalls 46 "FrameBackEnd$Frames" := ⟨rfl, fb_tb2 73 rfl rfl, fb_tb2 75 rfl rfl, fb_ts 4 rfl, fb_tb1 3 rfl rfl, cd_Fr_closeCalls, by decide +kernel, by decide +kernel, by decide +kernel⟩
theorem sw_Fr_49 : fb_sw "FrameBackEnd$Frames" fb_Ja_fill 49 := ⟨fb_tb2 81 rfl rfl, fb_tb2 82 rfl rfl, fb_tb1 7 rfl rfl, cd_Ja_fill, by decide +kernel, by decide +kernel, by decide +kernel⟩
theorem vw_Fr_58 : fb_vw "FrameBackEnd$Frames" fb_Fr_pushCallees 58 "FrameBackEnd$Frames" := ⟨rfl, fb_tb2 84 rfl rfl, fb_tb2 86 rfl rfl, fb_ts 5 rfl, fb_tb1 3 rfl rfl, cd_Fr_pushCallees, by decide +kernel, by decide +kernel, by decide +kernel⟩
theorem vw_Fr_62 : fb_vw "FrameBackEnd$Frames" fb_Fr_endOf 62 "FrameBackEnd$Frames" := ⟨rfl, fb_tb2 88 rfl rfl, fb_tb2 90 rfl rfl, fb_ts 6 rfl, fb_tb1 3 rfl rfl, cd_Fr_endOf, by decide +kernel, by decide +kernel, by decide +kernel⟩
theorem sw_Fr_66 : Cond.methodLink "FrameBackEnd$Frames" 66 Lib.Math.max.name ∈ fb_WA ∧ Cond.static Lib.Math.max.name ∈ fb_WA ∧ Cond.initialized "java/lang/Math" ∈ fb_WA ∧ Cond.code Lib.Math.max.name Lib.Math.max.code 2 (some .int) ∈ fb_WA := ⟨fb_tb2 96 rfl rfl, fb_tb2 97 rfl rfl, fb_tb1 8 rfl rfl, fb_tb2 98 rfl rfl⟩
theorem vw_Fr_72 : fb_vw "FrameBackEnd$Frames" fb_Pr_frameSizeOf 72 "FrameBackEnd$Program" := ⟨rfl, fb_tb2 92 rfl rfl, fb_tb2 93 rfl rfl, fb_tb2 94 rfl rfl, fb_tb1 2 rfl rfl, cd_Pr_frameSizeOf, by decide +kernel, by decide +kernel, by decide +kernel⟩
theorem sw_Po_35 : fb_sw "FrameBackEnd$Processor" fb_Ja_fill 35 := ⟨fb_tb3 19 rfl rfl, fb_tb2 82 rfl rfl, fb_tb1 7 rfl rfl, cd_Ja_fill, by decide +kernel, by decide +kernel, by decide +kernel⟩
theorem vw_Po_60 : fb_vw "FrameBackEnd$Processor" fb_Po_labelHere 60 "FrameBackEnd$Processor" := ⟨rfl, fb_tb3 96 rfl rfl, fb_tb3 98 rfl rfl, fb_ts 50 rfl, fb_tb1 5 rfl rfl, cd_Po_labelHere, by decide +kernel, by decide +kernel, by decide +kernel⟩
theorem vw_Po_69 : fb_vw "FrameBackEnd$Processor" fb_Po_performOne 69 "FrameBackEnd$Processor" := ⟨rfl, fb_tb3 28 rfl rfl, fb_tb3 30 rfl rfl, fb_ts 33 rfl, fb_tb1 5 rfl rfl, cd_Po_performOne, by decide +kernel, by decide +kernel, by decide +kernel⟩
theorem vw_Po_72 : fb_vw "FrameBackEnd$Processor" fb_Po_step 72 "FrameBackEnd$Processor" := ⟨rfl, fb_tb3 32 rfl rfl, fb_tb3 34 rfl rfl, fb_ts 34 rfl, fb_tb1 5 rfl rfl, cd_Po_step, by decide +kernel, by decide +kernel, by decide +kernel⟩
theorem vw_Po_75 : fb_vw "FrameBackEnd$Processor" fb_Po_fetch 75 "FrameBackEnd$Processor" := ⟨rfl, fb_tb3 36 rfl rfl, fb_tb3 38 rfl rfl, fb_ts 35 rfl, fb_tb1 5 rfl rfl, cd_Po_fetch, by decide +kernel, by decide +kernel, by decide +kernel⟩
theorem vw_Po_78 : fb_vw "FrameBackEnd$Processor" fb_Po_doWithData 78 "FrameBackEnd$Processor" := ⟨rfl, fb_tb3 40 rfl rfl, fb_tb3 42 rfl rfl, fb_ts 36 rfl, fb_tb1 5 rfl rfl, cd_Po_doWithData, by decide +kernel, by decide +kernel, by decide +kernel⟩
theorem vw_Po_82 : fb_vw "FrameBackEnd$Processor" fb_Po_doBranch 82 "FrameBackEnd$Processor" := ⟨rfl, fb_tb3 72 rfl rfl, fb_tb3 74 rfl rfl, fb_ts 44 rfl, fb_tb1 5 rfl rfl, cd_Po_doBranch, by decide +kernel, by decide +kernel, by decide +kernel⟩
theorem vw_Po_86 : fb_vw "FrameBackEnd$Processor" fb_Po_doJump 86 "FrameBackEnd$Processor" := ⟨rfl, fb_tb3 80 rfl rfl, fb_tb3 82 rfl rfl, fb_ts 46 rfl, fb_tb1 5 rfl rfl, cd_Po_doJump, by decide +kernel, by decide +kernel, by decide +kernel⟩
theorem vw_Po_89 : fb_vw "FrameBackEnd$Processor" fb_Po_doAlone 89 "FrameBackEnd$Processor" := ⟨rfl, fb_tb3 84 rfl rfl, fb_tb3 86 rfl rfl, fb_ts 47 rfl, fb_tb1 5 rfl rfl, cd_Po_doAlone, by decide +kernel, by decide +kernel, by decide +kernel⟩
theorem vw_Po_95 : fb_vw "FrameBackEnd$Processor" fb_Po_fetchOperand 95 "FrameBackEnd$Processor" := ⟨rfl, fb_tb3 44 rfl rfl, fb_tb3 46 rfl rfl, fb_ts 37 rfl, fb_tb1 5 rfl rfl, cd_Po_fetchOperand, by decide +kernel, by decide +kernel, by decide +kernel⟩
theorem vw_Po_99 : fb_vw "FrameBackEnd$Processor" fb_Po_read 99 "FrameBackEnd$Processor" := ⟨rfl, fb_tb3 48 rfl rfl, fb_tb3 50 rfl rfl, fb_ts 38 rfl, fb_tb1 5 rfl rfl, cd_Po_read, by decide +kernel, by decide +kernel, by decide +kernel⟩
theorem vw_Po_102 : fb_vw "FrameBackEnd$Processor" fb_Po_setA 102 "FrameBackEnd$Processor" := ⟨rfl, fb_tb3 52 rfl rfl, fb_tb3 54 rfl rfl, fb_ts 39 rfl, fb_tb1 5 rfl rfl, cd_Po_setA, by decide +kernel, by decide +kernel, by decide +kernel⟩
theorem vw_Po_105 : fb_vw "FrameBackEnd$Processor" fb_Po_write 105 "FrameBackEnd$Processor" := ⟨rfl, fb_tb3 56 rfl rfl, fb_tb3 58 rfl rfl, fb_ts 40 rfl, fb_tb1 5 rfl rfl, cd_Po_write, by decide +kernel, by decide +kernel, by decide +kernel⟩
theorem vw_Po_108 : fb_vw "FrameBackEnd$Processor" fb_Po_add 108 "FrameBackEnd$Processor" := ⟨rfl, fb_tb3 60 rfl rfl, fb_tb3 62 rfl rfl, fb_ts 41 rfl, fb_tb1 5 rfl rfl, cd_Po_add, by decide +kernel, by decide +kernel, by decide +kernel⟩
theorem vw_Po_111 : fb_vw "FrameBackEnd$Processor" fb_Po_shift 111 "FrameBackEnd$Processor" := ⟨rfl, fb_tb3 64 rfl rfl, fb_tb3 66 rfl rfl, fb_ts 42 rfl, fb_tb1 5 rfl rfl, cd_Po_shift, by decide +kernel, by decide +kernel, by decide +kernel⟩
theorem vw_Po_114 : fb_vw "FrameBackEnd$Processor" fb_Po_compare 114 "FrameBackEnd$Processor" := ⟨rfl, fb_tb3 68 rfl rfl, fb_tb3 70 rfl rfl, fb_ts 43 rfl, fb_tb1 5 rfl rfl, cd_Po_compare, by decide +kernel, by decide +kernel, by decide +kernel⟩
theorem vw_Po_117 : fb_vw "FrameBackEnd$Processor" fb_Po_branches 117 "FrameBackEnd$Processor" := ⟨rfl, fb_tb3 76 rfl rfl, fb_tb3 78 rfl rfl, fb_ts 45 rfl, fb_tb1 5 rfl rfl, cd_Po_branches, by decide +kernel, by decide +kernel, by decide +kernel⟩
theorem vw_Po_121 : fb_vw "FrameBackEnd$Processor" fb_Po_doReturn 121 "FrameBackEnd$Processor" := ⟨rfl, fb_tb3 88 rfl rfl, fb_tb3 90 rfl rfl, fb_ts 48 rfl, fb_tb1 5 rfl rfl, cd_Po_doReturn, by decide +kernel, by decide +kernel, by decide +kernel⟩
theorem vw_Po_124 : fb_vw "FrameBackEnd$Processor" fb_Po_putOut 124 "FrameBackEnd$Processor" := ⟨rfl, fb_tb3 92 rfl rfl, fb_tb3 94 rfl rfl, fb_ts 49 rfl, fb_tb1 5 rfl rfl, cd_Po_putOut, by decide +kernel, by decide +kernel, by decide +kernel⟩
theorem st_Pr_48 : Cond.fieldLinkNest "FrameBackEnd$Program" 48 "FrameBackEnd" "SORTS" "[I" "FrameBackEnd" ∈ fb_NW := fb_tn2 15 rfl rfl
theorem vw_Pr_51 : fb_vw "FrameBackEnd$Program" fb_Pr_suits 51 "FrameBackEnd$Program" := ⟨rfl, fb_tb2 17 rfl rfl, fb_tb2 19 rfl rfl, fb_ts 2 rfl, fb_tb1 2 rfl rfl, cd_Pr_suits, by decide +kernel, by decide +kernel, by decide +kernel⟩
theorem vw_Pr_55 : fb_vw "FrameBackEnd$Program" fb_Pr_sizeOf 55 "FrameBackEnd$Program" := ⟨rfl, fb_tb2 21 rfl rfl, fb_tb2 22 rfl rfl, fb_tb2 23 rfl rfl, fb_tb1 2 rfl rfl, cd_Pr_sizeOf, by decide +kernel, by decide +kernel, by decide +kernel⟩
theorem sw_Pr_59 : fb_sw "FrameBackEnd$Program" fb_Pr_isScalar 59 := ⟨fb_tb2 25 rfl rfl, fb_tb2 26 rfl rfl, fb_tb1 2 rfl rfl, cd_Pr_isScalar, by decide +kernel, by decide +kernel, by decide +kernel⟩
theorem cn_Pr_63 : Cond.constant "FrameBackEnd$Program" 63 (Int32.ofInt 65535) ∈ fb_WA := fb_tb2 28 rfl rfl
theorem vw_Pr_64 : fb_vw "FrameBackEnd$Program" fb_Pr_hasFunction 64 "FrameBackEnd$Program" := ⟨rfl, fb_tb2 57 rfl rfl, fb_tb2 58 rfl rfl, fb_tb2 59 rfl rfl, fb_tb1 2 rfl rfl, cd_Pr_hasFunction, by decide +kernel, by decide +kernel, by decide +kernel⟩
theorem vw_Pr_67 : fb_vw "FrameBackEnd$Program" fb_Pr_targetOf 67 "FrameBackEnd$Program" := ⟨rfl, fb_tb2 49 rfl rfl, fb_tb2 50 rfl rfl, fb_tb2 51 rfl rfl, fb_tb1 2 rfl rfl, cd_Pr_targetOf, by decide +kernel, by decide +kernel, by decide +kernel⟩
theorem vw_Pr_71 : fb_vw "FrameBackEnd$Program" fb_Pr_hasTarget 71 "FrameBackEnd$Program" := ⟨rfl, fb_tb2 45 rfl rfl, fb_tb2 46 rfl rfl, fb_tb2 47 rfl rfl, fb_tb1 2 rfl rfl, cd_Pr_hasTarget, by decide +kernel, by decide +kernel, by decide +kernel⟩
theorem vw_Pr_74 : fb_vw "FrameBackEnd$Program" fb_Pr_hasInstruction 74 "FrameBackEnd$Program" := ⟨rfl, fb_tb2 53 rfl rfl, fb_tb2 54 rfl rfl, fb_tb2 55 rfl rfl, fb_tb1 2 rfl rfl, cd_Pr_hasInstruction, by decide +kernel, by decide +kernel, by decide +kernel⟩
end
section
theorem dd_Pr_addFunction_0 : decode prog_5_method_2_code 0 = .ok (.aload_n 0, 1) := by decide +kernel
theorem dd_Pr_addFunction_1 : decode prog_5_method_2_code 1 = .ok (.getfield 41, 3) := by decide +kernel
theorem dd_Pr_addFunction_4 : decode prog_5_method_2_code 4 = .ok (.bipush 6, 2) := by decide +kernel
theorem dd_Pr_addFunction_6 : decode prog_5_method_2_code 6 = .ok (.if_icmp .lt (5), 3) := by decide +kernel
theorem dd_Pr_addFunction_9 : decode prog_5_method_2_code 9 = .ok (.iconst (-1), 1) := by decide +kernel
theorem dd_Pr_addFunction_10 : decode prog_5_method_2_code 10 = .ok (.ireturn, 1) := by decide +kernel
theorem dd_Pr_addFunction_11 : decode prog_5_method_2_code 11 = .ok (.aload_n 0, 1) := by decide +kernel
theorem dd_Pr_addFunction_12 : decode prog_5_method_2_code 12 = .ok (.getfield 20, 3) := by decide +kernel
theorem dd_Pr_addFunction_15 : decode prog_5_method_2_code 15 = .ok (.aload_n 0, 1) := by decide +kernel
theorem dd_Pr_addFunction_16 : decode prog_5_method_2_code 16 = .ok (.getfield 41, 3) := by decide +kernel
theorem dd_Pr_addFunction_19 : decode prog_5_method_2_code 19 = .ok (.aload_n 0, 1) := by decide +kernel
theorem dd_Pr_addFunction_20 : decode prog_5_method_2_code 20 = .ok (.getfield 45, 3) := by decide +kernel
theorem dd_Pr_addFunction_23 : decode prog_5_method_2_code 23 = .ok (.iastore, 1) := by decide +kernel
theorem dd_Pr_addFunction_24 : decode prog_5_method_2_code 24 = .ok (.aload_n 0, 1) := by decide +kernel
theorem dd_Pr_addFunction_25 : decode prog_5_method_2_code 25 = .ok (.dup, 1) := by decide +kernel
theorem dd_Pr_addFunction_26 : decode prog_5_method_2_code 26 = .ok (.getfield 41, 3) := by decide +kernel
theorem dd_Pr_addFunction_29 : decode prog_5_method_2_code 29 = .ok (.iconst 1, 1) := by decide +kernel
theorem dd_Pr_addFunction_30 : decode prog_5_method_2_code 30 = .ok (.iadd, 1) := by decide +kernel
theorem dd_Pr_addFunction_31 : decode prog_5_method_2_code 31 = .ok (.putfield 41, 3) := by decide +kernel
theorem dd_Pr_addFunction_34 : decode prog_5_method_2_code 34 = .ok (.aload_n 0, 1) := by decide +kernel
theorem dd_Pr_addFunction_35 : decode prog_5_method_2_code 35 = .ok (.getfield 41, 3) := by decide +kernel
theorem dd_Pr_addFunction_38 : decode prog_5_method_2_code 38 = .ok (.iconst 1, 1) := by decide +kernel
theorem dd_Pr_addFunction_39 : decode prog_5_method_2_code 39 = .ok (.isub, 1) := by decide +kernel
theorem dd_Pr_addFunction_40 : decode prog_5_method_2_code 40 = .ok (.ireturn, 1) := by decide +kernel
theorem dd_Pr_addVariable_0 : decode prog_5_method_3_code 0 = .ok (.aload_n 0, 1) := by decide +kernel
theorem dd_Pr_addVariable_1 : decode prog_5_method_3_code 1 = .ok (.getfield 41, 3) := by decide +kernel
theorem dd_Pr_addVariable_4 : decode prog_5_method_3_code 4 = .ok (.iconst 1, 1) := by decide +kernel
theorem dd_Pr_addVariable_5 : decode prog_5_method_3_code 5 = .ok (.isub, 1) := by decide +kernel
theorem dd_Pr_addVariable_6 : decode prog_5_method_3_code 6 = .ok (.istore_n 2, 1) := by decide +kernel
theorem dd_Pr_addVariable_7 : decode prog_5_method_3_code 7 = .ok (.iload_n 2, 1) := by decide +kernel
theorem dd_Pr_addVariable_8 : decode prog_5_method_3_code 8 = .ok (.ifCond .lt (25), 3) := by decide +kernel
theorem dd_Pr_addVariable_11 : decode prog_5_method_3_code 11 = .ok (.iload_n 1, 1) := by decide +kernel
theorem dd_Pr_addVariable_12 : decode prog_5_method_3_code 12 = .ok (.iconst 1, 1) := by decide +kernel
theorem dd_Pr_addVariable_13 : decode prog_5_method_3_code 13 = .ok (.if_icmp .lt (20), 3) := by decide +kernel
theorem dd_Pr_addVariable_16 : decode prog_5_method_3_code 16 = .ok (.iload_n 1, 1) := by decide +kernel
theorem dd_Pr_addVariable_17 : decode prog_5_method_3_code 17 = .ok (.bipush 8, 2) := by decide +kernel
theorem dd_Pr_addVariable_19 : decode prog_5_method_3_code 19 = .ok (.if_icmp .gt (14), 3) := by decide +kernel
theorem dd_Pr_addVariable_22 : decode prog_5_method_3_code 22 = .ok (.aload_n 0, 1) := by decide +kernel
theorem dd_Pr_addVariable_23 : decode prog_5_method_3_code 23 = .ok (.getfield 16, 3) := by decide +kernel
theorem dd_Pr_addVariable_26 : decode prog_5_method_3_code 26 = .ok (.iload_n 2, 1) := by decide +kernel
theorem dd_Pr_addVariable_27 : decode prog_5_method_3_code 27 = .ok (.iaload, 1) := by decide +kernel
theorem dd_Pr_addVariable_28 : decode prog_5_method_3_code 28 = .ok (.bipush 6, 2) := by decide +kernel
theorem dd_Pr_addVariable_30 : decode prog_5_method_3_code 30 = .ok (.if_icmp .lt (5), 3) := by decide +kernel
theorem dd_Pr_addVariable_33 : decode prog_5_method_3_code 33 = .ok (.iconst (-1), 1) := by decide +kernel
theorem dd_Pr_addVariable_34 : decode prog_5_method_3_code 34 = .ok (.ireturn, 1) := by decide +kernel
theorem dd_Pr_addVariable_35 : decode prog_5_method_3_code 35 = .ok (.aload_n 0, 1) := by decide +kernel
theorem dd_Pr_addVariable_36 : decode prog_5_method_3_code 36 = .ok (.getfield 16, 3) := by decide +kernel
theorem dd_Pr_addVariable_39 : decode prog_5_method_3_code 39 = .ok (.iload_n 2, 1) := by decide +kernel
theorem dd_Pr_addVariable_40 : decode prog_5_method_3_code 40 = .ok (.iaload, 1) := by decide +kernel
theorem dd_Pr_addVariable_41 : decode prog_5_method_3_code 41 = .ok (.istore_n 3, 1) := by decide +kernel
theorem dd_Pr_addVariable_42 : decode prog_5_method_3_code 42 = .ok (.aload_n 0, 1) := by decide +kernel
theorem dd_Pr_addVariable_43 : decode prog_5_method_3_code 43 = .ok (.getfield 11, 3) := by decide +kernel
theorem dd_Pr_addVariable_46 : decode prog_5_method_3_code 46 = .ok (.iload_n 2, 1) := by decide +kernel
theorem dd_Pr_addVariable_47 : decode prog_5_method_3_code 47 = .ok (.aaload, 1) := by decide +kernel
theorem dd_Pr_addVariable_48 : decode prog_5_method_3_code 48 = .ok (.iload_n 3, 1) := by decide +kernel
theorem dd_Pr_addVariable_49 : decode prog_5_method_3_code 49 = .ok (.iload_n 1, 1) := by decide +kernel
theorem dd_Pr_addVariable_50 : decode prog_5_method_3_code 50 = .ok (.iastore, 1) := by decide +kernel
theorem dd_Pr_addVariable_51 : decode prog_5_method_3_code 51 = .ok (.aload_n 0, 1) := by decide +kernel
theorem dd_Pr_addVariable_52 : decode prog_5_method_3_code 52 = .ok (.getfield 16, 3) := by decide +kernel
theorem dd_Pr_addVariable_55 : decode prog_5_method_3_code 55 = .ok (.iload_n 2, 1) := by decide +kernel
theorem dd_Pr_addVariable_56 : decode prog_5_method_3_code 56 = .ok (.dup2, 1) := by decide +kernel
theorem dd_Pr_addVariable_57 : decode prog_5_method_3_code 57 = .ok (.iaload, 1) := by decide +kernel
theorem dd_Pr_addVariable_58 : decode prog_5_method_3_code 58 = .ok (.iconst 1, 1) := by decide +kernel
theorem dd_Pr_addVariable_59 : decode prog_5_method_3_code 59 = .ok (.iadd, 1) := by decide +kernel
theorem dd_Pr_addVariable_60 : decode prog_5_method_3_code 60 = .ok (.iastore, 1) := by decide +kernel
theorem dd_Pr_addVariable_61 : decode prog_5_method_3_code 61 = .ok (.iload_n 3, 1) := by decide +kernel
theorem dd_Pr_addVariable_62 : decode prog_5_method_3_code 62 = .ok (.ireturn, 1) := by decide +kernel
theorem dd_Pr_addInstruction_0 : decode prog_5_method_4_code 0 = .ok (.aload_n 0, 1) := by decide +kernel
theorem dd_Pr_addInstruction_1 : decode prog_5_method_4_code 1 = .ok (.getfield 41, 3) := by decide +kernel
theorem dd_Pr_addInstruction_4 : decode prog_5_method_4_code 4 = .ok (.iconst 1, 1) := by decide +kernel
theorem dd_Pr_addInstruction_5 : decode prog_5_method_4_code 5 = .ok (.isub, 1) := by decide +kernel
theorem dd_Pr_addInstruction_6 : decode prog_5_method_4_code 6 = .ok (.istore 5, 2) := by decide +kernel
theorem dd_Pr_addInstruction_8 : decode prog_5_method_4_code 8 = .ok (.iload 5, 2) := by decide +kernel
theorem dd_Pr_addInstruction_10 : decode prog_5_method_4_code 10 = .ok (.ifCond .lt (24), 3) := by decide +kernel
theorem dd_Pr_addInstruction_13 : decode prog_5_method_4_code 13 = .ok (.aload_n 0, 1) := by decide +kernel
theorem dd_Pr_addInstruction_14 : decode prog_5_method_4_code 14 = .ok (.getfield 23, 3) := by decide +kernel
theorem dd_Pr_addInstruction_17 : decode prog_5_method_4_code 17 = .ok (.iload 5, 2) := by decide +kernel
theorem dd_Pr_addInstruction_19 : decode prog_5_method_4_code 19 = .ok (.iaload, 1) := by decide +kernel
theorem dd_Pr_addInstruction_20 : decode prog_5_method_4_code 20 = .ok (.bipush 24, 2) := by decide +kernel
theorem dd_Pr_addInstruction_22 : decode prog_5_method_4_code 22 = .ok (.if_icmp .ge (12), 3) := by decide +kernel
theorem dd_Pr_addInstruction_25 : decode prog_5_method_4_code 25 = .ok (.aload_n 0, 1) := by decide +kernel
theorem dd_Pr_addInstruction_26 : decode prog_5_method_4_code 26 = .ok (.getfield 45, 3) := by decide +kernel
theorem dd_Pr_addInstruction_29 : decode prog_5_method_4_code 29 = .ok (.bipush 60, 2) := by decide +kernel
theorem dd_Pr_addInstruction_31 : decode prog_5_method_4_code 31 = .ok (.if_icmp .lt (5), 3) := by decide +kernel
theorem dd_Pr_addInstruction_34 : decode prog_5_method_4_code 34 = .ok (.iconst (-1), 1) := by decide +kernel
theorem dd_Pr_addInstruction_35 : decode prog_5_method_4_code 35 = .ok (.ireturn, 1) := by decide +kernel
theorem dd_Pr_addInstruction_36 : decode prog_5_method_4_code 36 = .ok (.iload_n 1, 1) := by decide +kernel
theorem dd_Pr_addInstruction_37 : decode prog_5_method_4_code 37 = .ok (.ifCond .lt (9), 3) := by decide +kernel
theorem dd_Pr_addInstruction_40 : decode prog_5_method_4_code 40 = .ok (.iload_n 1, 1) := by decide +kernel
theorem dd_Pr_addInstruction_41 : decode prog_5_method_4_code 41 = .ok (.bipush 15, 2) := by decide +kernel
theorem dd_Pr_addInstruction_43 : decode prog_5_method_4_code 43 = .ok (.if_icmp .le (5), 3) := by decide +kernel
theorem dd_Pr_addInstruction_46 : decode prog_5_method_4_code 46 = .ok (.iconst (-1), 1) := by decide +kernel
theorem dd_Pr_addInstruction_47 : decode prog_5_method_4_code 47 = .ok (.ireturn, 1) := by decide +kernel
theorem dd_Pr_addInstruction_48 : decode prog_5_method_4_code 48 = .ok (.aload_n 0, 1) := by decide +kernel
theorem dd_Pr_addInstruction_49 : decode prog_5_method_4_code 49 = .ok (.getstatic 48, 3) := by decide +kernel
theorem dd_Pr_addInstruction_52 : decode prog_5_method_4_code 52 = .ok (.iconst 3, 1) := by decide +kernel
theorem dd_Pr_addInstruction_53 : decode prog_5_method_4_code 53 = .ok (.iload_n 1, 1) := by decide +kernel
theorem dd_Pr_addInstruction_54 : decode prog_5_method_4_code 54 = .ok (.imul, 1) := by decide +kernel
theorem dd_Pr_addInstruction_55 : decode prog_5_method_4_code 55 = .ok (.iaload, 1) := by decide +kernel
theorem dd_Pr_addInstruction_56 : decode prog_5_method_4_code 56 = .ok (.iload_n 2, 1) := by decide +kernel
theorem dd_Pr_addInstruction_57 : decode prog_5_method_4_code 57 = .ok (.invokevirtual 51, 3) := by decide +kernel
theorem dd_Pr_addInstruction_60 : decode prog_5_method_4_code 60 = .ok (.ifCond .eq (38), 3) := by decide +kernel
theorem dd_Pr_addInstruction_63 : decode prog_5_method_4_code 63 = .ok (.aload_n 0, 1) := by decide +kernel
theorem dd_Pr_addInstruction_64 : decode prog_5_method_4_code 64 = .ok (.getstatic 48, 3) := by decide +kernel
theorem dd_Pr_addInstruction_67 : decode prog_5_method_4_code 67 = .ok (.iconst 3, 1) := by decide +kernel
theorem dd_Pr_addInstruction_68 : decode prog_5_method_4_code 68 = .ok (.iload_n 1, 1) := by decide +kernel
theorem dd_Pr_addInstruction_69 : decode prog_5_method_4_code 69 = .ok (.imul, 1) := by decide +kernel
theorem dd_Pr_addInstruction_70 : decode prog_5_method_4_code 70 = .ok (.iconst 1, 1) := by decide +kernel
theorem dd_Pr_addInstruction_71 : decode prog_5_method_4_code 71 = .ok (.iadd, 1) := by decide +kernel
theorem dd_Pr_addInstruction_72 : decode prog_5_method_4_code 72 = .ok (.iaload, 1) := by decide +kernel
theorem dd_Pr_addInstruction_73 : decode prog_5_method_4_code 73 = .ok (.iload_n 3, 1) := by decide +kernel
theorem dd_Pr_addInstruction_74 : decode prog_5_method_4_code 74 = .ok (.invokevirtual 51, 3) := by decide +kernel
theorem dd_Pr_addInstruction_77 : decode prog_5_method_4_code 77 = .ok (.ifCond .eq (21), 3) := by decide +kernel
theorem dd_Pr_addInstruction_80 : decode prog_5_method_4_code 80 = .ok (.aload_n 0, 1) := by decide +kernel
theorem dd_Pr_addInstruction_81 : decode prog_5_method_4_code 81 = .ok (.getstatic 48, 3) := by decide +kernel
theorem dd_Pr_addInstruction_84 : decode prog_5_method_4_code 84 = .ok (.iconst 3, 1) := by decide +kernel
theorem dd_Pr_addInstruction_85 : decode prog_5_method_4_code 85 = .ok (.iload_n 1, 1) := by decide +kernel
theorem dd_Pr_addInstruction_86 : decode prog_5_method_4_code 86 = .ok (.imul, 1) := by decide +kernel
theorem dd_Pr_addInstruction_87 : decode prog_5_method_4_code 87 = .ok (.iconst 2, 1) := by decide +kernel
theorem dd_Pr_addInstruction_88 : decode prog_5_method_4_code 88 = .ok (.iadd, 1) := by decide +kernel
theorem dd_Pr_addInstruction_89 : decode prog_5_method_4_code 89 = .ok (.iaload, 1) := by decide +kernel
theorem dd_Pr_addInstruction_90 : decode prog_5_method_4_code 90 = .ok (.iload 4, 2) := by decide +kernel
theorem dd_Pr_addInstruction_92 : decode prog_5_method_4_code 92 = .ok (.invokevirtual 51, 3) := by decide +kernel
theorem dd_Pr_addInstruction_95 : decode prog_5_method_4_code 95 = .ok (.ifCond .ne (5), 3) := by decide +kernel
theorem dd_Pr_addInstruction_98 : decode prog_5_method_4_code 98 = .ok (.iconst (-1), 1) := by decide +kernel
theorem dd_Pr_addInstruction_99 : decode prog_5_method_4_code 99 = .ok (.ireturn, 1) := by decide +kernel
theorem dd_Pr_addInstruction_100 : decode prog_5_method_4_code 100 = .ok (.aload_n 0, 1) := by decide +kernel
theorem dd_Pr_addInstruction_101 : decode prog_5_method_4_code 101 = .ok (.getfield 26, 3) := by decide +kernel
theorem dd_Pr_addInstruction_104 : decode prog_5_method_4_code 104 = .ok (.aload_n 0, 1) := by decide +kernel
theorem dd_Pr_addInstruction_105 : decode prog_5_method_4_code 105 = .ok (.getfield 45, 3) := by decide +kernel
theorem dd_Pr_addInstruction_108 : decode prog_5_method_4_code 108 = .ok (.iload 5, 2) := by decide +kernel
theorem dd_Pr_addInstruction_110 : decode prog_5_method_4_code 110 = .ok (.iastore, 1) := by decide +kernel
theorem dd_Pr_addInstruction_111 : decode prog_5_method_4_code 111 = .ok (.aload_n 0, 1) := by decide +kernel
theorem dd_Pr_addInstruction_112 : decode prog_5_method_4_code 112 = .ok (.getfield 29, 3) := by decide +kernel
theorem dd_Pr_addInstruction_115 : decode prog_5_method_4_code 115 = .ok (.aload_n 0, 1) := by decide +kernel
theorem dd_Pr_addInstruction_116 : decode prog_5_method_4_code 116 = .ok (.getfield 45, 3) := by decide +kernel
theorem dd_Pr_addInstruction_119 : decode prog_5_method_4_code 119 = .ok (.iload_n 1, 1) := by decide +kernel
theorem dd_Pr_addInstruction_120 : decode prog_5_method_4_code 120 = .ok (.iastore, 1) := by decide +kernel
theorem dd_Pr_addInstruction_121 : decode prog_5_method_4_code 121 = .ok (.aload_n 0, 1) := by decide +kernel
theorem dd_Pr_addInstruction_122 : decode prog_5_method_4_code 122 = .ok (.getfield 32, 3) := by decide +kernel
theorem dd_Pr_addInstruction_125 : decode prog_5_method_4_code 125 = .ok (.aload_n 0, 1) := by decide +kernel
theorem dd_Pr_addInstruction_126 : decode prog_5_method_4_code 126 = .ok (.getfield 45, 3) := by decide +kernel
theorem dd_Pr_addInstruction_129 : decode prog_5_method_4_code 129 = .ok (.iload_n 2, 1) := by decide +kernel
theorem dd_Pr_addInstruction_130 : decode prog_5_method_4_code 130 = .ok (.iastore, 1) := by decide +kernel
theorem dd_Pr_addInstruction_131 : decode prog_5_method_4_code 131 = .ok (.aload_n 0, 1) := by decide +kernel
theorem dd_Pr_addInstruction_132 : decode prog_5_method_4_code 132 = .ok (.getfield 35, 3) := by decide +kernel
theorem dd_Pr_addInstruction_135 : decode prog_5_method_4_code 135 = .ok (.aload_n 0, 1) := by decide +kernel
theorem dd_Pr_addInstruction_136 : decode prog_5_method_4_code 136 = .ok (.getfield 45, 3) := by decide +kernel
theorem dd_Pr_addInstruction_139 : decode prog_5_method_4_code 139 = .ok (.iload_n 3, 1) := by decide +kernel
theorem dd_Pr_addInstruction_140 : decode prog_5_method_4_code 140 = .ok (.iastore, 1) := by decide +kernel
theorem dd_Pr_addInstruction_141 : decode prog_5_method_4_code 141 = .ok (.aload_n 0, 1) := by decide +kernel
theorem dd_Pr_addInstruction_142 : decode prog_5_method_4_code 142 = .ok (.getfield 38, 3) := by decide +kernel
theorem dd_Pr_addInstruction_145 : decode prog_5_method_4_code 145 = .ok (.aload_n 0, 1) := by decide +kernel
theorem dd_Pr_addInstruction_146 : decode prog_5_method_4_code 146 = .ok (.getfield 45, 3) := by decide +kernel
theorem dd_Pr_addInstruction_149 : decode prog_5_method_4_code 149 = .ok (.iload 4, 2) := by decide +kernel
theorem dd_Pr_addInstruction_151 : decode prog_5_method_4_code 151 = .ok (.iastore, 1) := by decide +kernel
theorem dd_Pr_addInstruction_152 : decode prog_5_method_4_code 152 = .ok (.aload_n 0, 1) := by decide +kernel
theorem dd_Pr_addInstruction_153 : decode prog_5_method_4_code 153 = .ok (.dup, 1) := by decide +kernel
theorem dd_Pr_addInstruction_154 : decode prog_5_method_4_code 154 = .ok (.getfield 45, 3) := by decide +kernel
theorem dd_Pr_addInstruction_157 : decode prog_5_method_4_code 157 = .ok (.iconst 1, 1) := by decide +kernel
theorem dd_Pr_addInstruction_158 : decode prog_5_method_4_code 158 = .ok (.iadd, 1) := by decide +kernel
theorem dd_Pr_addInstruction_159 : decode prog_5_method_4_code 159 = .ok (.putfield 45, 3) := by decide +kernel
theorem dd_Pr_addInstruction_162 : decode prog_5_method_4_code 162 = .ok (.aload_n 0, 1) := by decide +kernel
theorem dd_Pr_addInstruction_163 : decode prog_5_method_4_code 163 = .ok (.getfield 23, 3) := by decide +kernel
theorem dd_Pr_addInstruction_166 : decode prog_5_method_4_code 166 = .ok (.iload 5, 2) := by decide +kernel
theorem dd_Pr_addInstruction_168 : decode prog_5_method_4_code 168 = .ok (.dup2, 1) := by decide +kernel
theorem dd_Pr_addInstruction_169 : decode prog_5_method_4_code 169 = .ok (.iaload, 1) := by decide +kernel
theorem dd_Pr_addInstruction_170 : decode prog_5_method_4_code 170 = .ok (.iconst 1, 1) := by decide +kernel
theorem dd_Pr_addInstruction_171 : decode prog_5_method_4_code 171 = .ok (.iadd, 1) := by decide +kernel
theorem dd_Pr_addInstruction_172 : decode prog_5_method_4_code 172 = .ok (.iastore, 1) := by decide +kernel
theorem dd_Pr_addInstruction_173 : decode prog_5_method_4_code 173 = .ok (.aload_n 0, 1) := by decide +kernel
theorem dd_Pr_addInstruction_174 : decode prog_5_method_4_code 174 = .ok (.getfield 23, 3) := by decide +kernel
theorem dd_Pr_addInstruction_177 : decode prog_5_method_4_code 177 = .ok (.iload 5, 2) := by decide +kernel
theorem dd_Pr_addInstruction_179 : decode prog_5_method_4_code 179 = .ok (.iaload, 1) := by decide +kernel
theorem dd_Pr_addInstruction_180 : decode prog_5_method_4_code 180 = .ok (.iconst 1, 1) := by decide +kernel
theorem dd_Pr_addInstruction_181 : decode prog_5_method_4_code 181 = .ok (.isub, 1) := by decide +kernel
theorem dd_Pr_addInstruction_182 : decode prog_5_method_4_code 182 = .ok (.ireturn, 1) := by decide +kernel
theorem dd_Pr_suits_0 : decode prog_5_method_5_code 0 = .ok (.aload_n 0, 1) := by decide +kernel
theorem dd_Pr_suits_1 : decode prog_5_method_5_code 1 = .ok (.aload_n 0, 1) := by decide +kernel
theorem dd_Pr_suits_2 : decode prog_5_method_5_code 2 = .ok (.getfield 41, 3) := by decide +kernel
theorem dd_Pr_suits_5 : decode prog_5_method_5_code 5 = .ok (.iconst 1, 1) := by decide +kernel
theorem dd_Pr_suits_6 : decode prog_5_method_5_code 6 = .ok (.isub, 1) := by decide +kernel
theorem dd_Pr_suits_7 : decode prog_5_method_5_code 7 = .ok (.iload_n 2, 1) := by decide +kernel
theorem dd_Pr_suits_8 : decode prog_5_method_5_code 8 = .ok (.invokevirtual 55, 3) := by decide +kernel
theorem dd_Pr_suits_11 : decode prog_5_method_5_code 11 = .ok (.istore_n 3, 1) := by decide +kernel
theorem dd_Pr_suits_12 : decode prog_5_method_5_code 12 = .ok (.iload_n 1, 1) := by decide +kernel
theorem dd_Pr_suits_13 : decode prog_5_method_5_code 13 = .ok (.tableswitch (74) (1) (4) #[31, 36, 47, 58], 31) := by decide +kernel
theorem dd_Pr_suits_44 : decode prog_5_method_5_code 44 = .ok (.iload_n 3, 1) := by decide +kernel
theorem dd_Pr_suits_45 : decode prog_5_method_5_code 45 = .ok (.invokestatic 59, 3) := by decide +kernel
theorem dd_Pr_suits_48 : decode prog_5_method_5_code 48 = .ok (.ireturn, 1) := by decide +kernel
theorem dd_Pr_suits_49 : decode prog_5_method_5_code 49 = .ok (.iload_n 3, 1) := by decide +kernel
theorem dd_Pr_suits_50 : decode prog_5_method_5_code 50 = .ok (.iconst 1, 1) := by decide +kernel
theorem dd_Pr_suits_51 : decode prog_5_method_5_code 51 = .ok (.if_icmp .ne (7), 3) := by decide +kernel
theorem dd_Pr_suits_54 : decode prog_5_method_5_code 54 = .ok (.iconst 1, 1) := by decide +kernel
theorem dd_Pr_suits_55 : decode prog_5_method_5_code 55 = .ok (.goto (4), 3) := by decide +kernel
theorem dd_Pr_suits_58 : decode prog_5_method_5_code 58 = .ok (.iconst 0, 1) := by decide +kernel
theorem dd_Pr_suits_59 : decode prog_5_method_5_code 59 = .ok (.ireturn, 1) := by decide +kernel
theorem dd_Pr_suits_60 : decode prog_5_method_5_code 60 = .ok (.iload_n 3, 1) := by decide +kernel
theorem dd_Pr_suits_61 : decode prog_5_method_5_code 61 = .ok (.iconst 2, 1) := by decide +kernel
theorem dd_Pr_suits_62 : decode prog_5_method_5_code 62 = .ok (.if_icmp .le (7), 3) := by decide +kernel
theorem dd_Pr_suits_65 : decode prog_5_method_5_code 65 = .ok (.iconst 1, 1) := by decide +kernel
theorem dd_Pr_suits_66 : decode prog_5_method_5_code 66 = .ok (.goto (4), 3) := by decide +kernel
theorem dd_Pr_suits_69 : decode prog_5_method_5_code 69 = .ok (.iconst 0, 1) := by decide +kernel
theorem dd_Pr_suits_70 : decode prog_5_method_5_code 70 = .ok (.ireturn, 1) := by decide +kernel
theorem dd_Pr_suits_71 : decode prog_5_method_5_code 71 = .ok (.iload_n 2, 1) := by decide +kernel
theorem dd_Pr_suits_72 : decode prog_5_method_5_code 72 = .ok (.ifCond .lt (13), 3) := by decide +kernel
theorem dd_Pr_suits_75 : decode prog_5_method_5_code 75 = .ok (.iload_n 2, 1) := by decide +kernel
theorem dd_Pr_suits_76 : decode prog_5_method_5_code 76 = .ok (.ldc 63, 2) := by decide +kernel
theorem dd_Pr_suits_78 : decode prog_5_method_5_code 78 = .ok (.if_icmp .gt (7), 3) := by decide +kernel
theorem dd_Pr_suits_81 : decode prog_5_method_5_code 81 = .ok (.iconst 1, 1) := by decide +kernel
theorem dd_Pr_suits_82 : decode prog_5_method_5_code 82 = .ok (.goto (4), 3) := by decide +kernel
theorem dd_Pr_suits_85 : decode prog_5_method_5_code 85 = .ok (.iconst 0, 1) := by decide +kernel
theorem dd_Pr_suits_86 : decode prog_5_method_5_code 86 = .ok (.ireturn, 1) := by decide +kernel
theorem dd_Pr_suits_87 : decode prog_5_method_5_code 87 = .ok (.iconst 1, 1) := by decide +kernel
theorem dd_Pr_suits_88 : decode prog_5_method_5_code 88 = .ok (.ireturn, 1) := by decide +kernel
theorem dd_Pr_isScalar_0 : decode prog_5_method_6_code 0 = .ok (.iload_n 0, 1) := by decide +kernel
theorem dd_Pr_isScalar_1 : decode prog_5_method_6_code 1 = .ok (.iconst 1, 1) := by decide +kernel
theorem dd_Pr_isScalar_2 : decode prog_5_method_6_code 2 = .ok (.if_icmp .eq (8), 3) := by decide +kernel
theorem dd_Pr_isScalar_5 : decode prog_5_method_6_code 5 = .ok (.iload_n 0, 1) := by decide +kernel
theorem dd_Pr_isScalar_6 : decode prog_5_method_6_code 6 = .ok (.iconst 2, 1) := by decide +kernel
theorem dd_Pr_isScalar_7 : decode prog_5_method_6_code 7 = .ok (.if_icmp .ne (7), 3) := by decide +kernel
theorem dd_Pr_isScalar_10 : decode prog_5_method_6_code 10 = .ok (.iconst 1, 1) := by decide +kernel
theorem dd_Pr_isScalar_11 : decode prog_5_method_6_code 11 = .ok (.goto (4), 3) := by decide +kernel
theorem dd_Pr_isScalar_14 : decode prog_5_method_6_code 14 = .ok (.iconst 0, 1) := by decide +kernel
theorem dd_Pr_isScalar_15 : decode prog_5_method_6_code 15 = .ok (.ireturn, 1) := by decide +kernel
theorem dd_Pr_hasFunction_0 : decode prog_5_method_7_code 0 = .ok (.iload_n 1, 1) := by decide +kernel
theorem dd_Pr_hasFunction_1 : decode prog_5_method_7_code 1 = .ok (.ifCond .lt (15), 3) := by decide +kernel
theorem dd_Pr_hasFunction_4 : decode prog_5_method_7_code 4 = .ok (.iload_n 1, 1) := by decide +kernel
theorem dd_Pr_hasFunction_5 : decode prog_5_method_7_code 5 = .ok (.aload_n 0, 1) := by decide +kernel
theorem dd_Pr_hasFunction_6 : decode prog_5_method_7_code 6 = .ok (.getfield 41, 3) := by decide +kernel
theorem dd_Pr_hasFunction_9 : decode prog_5_method_7_code 9 = .ok (.if_icmp .ge (7), 3) := by decide +kernel
theorem dd_Pr_hasFunction_12 : decode prog_5_method_7_code 12 = .ok (.iconst 1, 1) := by decide +kernel
theorem dd_Pr_hasFunction_13 : decode prog_5_method_7_code 13 = .ok (.goto (4), 3) := by decide +kernel
theorem dd_Pr_hasFunction_16 : decode prog_5_method_7_code 16 = .ok (.iconst 0, 1) := by decide +kernel
theorem dd_Pr_hasFunction_17 : decode prog_5_method_7_code 17 = .ok (.ireturn, 1) := by decide +kernel
theorem dd_Pr_hasInstruction_0 : decode prog_5_method_8_code 0 = .ok (.aload_n 0, 1) := by decide +kernel
theorem dd_Pr_hasInstruction_1 : decode prog_5_method_8_code 1 = .ok (.iload_n 1, 1) := by decide +kernel
theorem dd_Pr_hasInstruction_2 : decode prog_5_method_8_code 2 = .ok (.invokevirtual 64, 3) := by decide +kernel
theorem dd_Pr_hasInstruction_5 : decode prog_5_method_8_code 5 = .ok (.ifCond .eq (21), 3) := by decide +kernel
theorem dd_Pr_hasInstruction_8 : decode prog_5_method_8_code 8 = .ok (.iload_n 2, 1) := by decide +kernel
theorem dd_Pr_hasInstruction_9 : decode prog_5_method_8_code 9 = .ok (.ifCond .lt (17), 3) := by decide +kernel
theorem dd_Pr_hasInstruction_12 : decode prog_5_method_8_code 12 = .ok (.iload_n 2, 1) := by decide +kernel
theorem dd_Pr_hasInstruction_13 : decode prog_5_method_8_code 13 = .ok (.aload_n 0, 1) := by decide +kernel
theorem dd_Pr_hasInstruction_14 : decode prog_5_method_8_code 14 = .ok (.getfield 23, 3) := by decide +kernel
theorem dd_Pr_hasInstruction_17 : decode prog_5_method_8_code 17 = .ok (.iload_n 1, 1) := by decide +kernel
theorem dd_Pr_hasInstruction_18 : decode prog_5_method_8_code 18 = .ok (.iaload, 1) := by decide +kernel
theorem dd_Pr_hasInstruction_19 : decode prog_5_method_8_code 19 = .ok (.if_icmp .ge (7), 3) := by decide +kernel
theorem dd_Pr_hasInstruction_22 : decode prog_5_method_8_code 22 = .ok (.iconst 1, 1) := by decide +kernel
theorem dd_Pr_hasInstruction_23 : decode prog_5_method_8_code 23 = .ok (.goto (4), 3) := by decide +kernel
theorem dd_Pr_hasInstruction_26 : decode prog_5_method_8_code 26 = .ok (.iconst 0, 1) := by decide +kernel
theorem dd_Pr_hasInstruction_27 : decode prog_5_method_8_code 27 = .ok (.ireturn, 1) := by decide +kernel
theorem dd_Pr_sizeOf_0 : decode prog_5_method_9_code 0 = .ok (.iload_n 1, 1) := by decide +kernel
theorem dd_Pr_sizeOf_1 : decode prog_5_method_9_code 1 = .ok (.ifCond .lt (29), 3) := by decide +kernel
theorem dd_Pr_sizeOf_4 : decode prog_5_method_9_code 4 = .ok (.iload_n 1, 1) := by decide +kernel
theorem dd_Pr_sizeOf_5 : decode prog_5_method_9_code 5 = .ok (.aload_n 0, 1) := by decide +kernel
theorem dd_Pr_sizeOf_6 : decode prog_5_method_9_code 6 = .ok (.getfield 41, 3) := by decide +kernel
theorem dd_Pr_sizeOf_9 : decode prog_5_method_9_code 9 = .ok (.if_icmp .ge (21), 3) := by decide +kernel
theorem dd_Pr_sizeOf_12 : decode prog_5_method_9_code 12 = .ok (.iload_n 2, 1) := by decide +kernel
theorem dd_Pr_sizeOf_13 : decode prog_5_method_9_code 13 = .ok (.ifCond .lt (17), 3) := by decide +kernel
theorem dd_Pr_sizeOf_16 : decode prog_5_method_9_code 16 = .ok (.iload_n 2, 1) := by decide +kernel
theorem dd_Pr_sizeOf_17 : decode prog_5_method_9_code 17 = .ok (.aload_n 0, 1) := by decide +kernel
theorem dd_Pr_sizeOf_18 : decode prog_5_method_9_code 18 = .ok (.getfield 16, 3) := by decide +kernel
theorem dd_Pr_sizeOf_21 : decode prog_5_method_9_code 21 = .ok (.iload_n 1, 1) := by decide +kernel
theorem dd_Pr_sizeOf_22 : decode prog_5_method_9_code 22 = .ok (.iaload, 1) := by decide +kernel
theorem dd_Pr_sizeOf_23 : decode prog_5_method_9_code 23 = .ok (.if_icmp .ge (7), 3) := by decide +kernel
theorem dd_Pr_sizeOf_26 : decode prog_5_method_9_code 26 = .ok (.iconst 1, 1) := by decide +kernel
theorem dd_Pr_sizeOf_27 : decode prog_5_method_9_code 27 = .ok (.goto (4), 3) := by decide +kernel
theorem dd_Pr_sizeOf_30 : decode prog_5_method_9_code 30 = .ok (.iconst 0, 1) := by decide +kernel
theorem dd_Pr_sizeOf_31 : decode prog_5_method_9_code 31 = .ok (.istore_n 3, 1) := by decide +kernel
theorem dd_Pr_sizeOf_32 : decode prog_5_method_9_code 32 = .ok (.iload_n 3, 1) := by decide +kernel
theorem dd_Pr_sizeOf_33 : decode prog_5_method_9_code 33 = .ok (.ifCond .eq (14), 3) := by decide +kernel
theorem dd_Pr_sizeOf_36 : decode prog_5_method_9_code 36 = .ok (.aload_n 0, 1) := by decide +kernel
theorem dd_Pr_sizeOf_37 : decode prog_5_method_9_code 37 = .ok (.getfield 11, 3) := by decide +kernel
theorem dd_Pr_sizeOf_40 : decode prog_5_method_9_code 40 = .ok (.iload_n 1, 1) := by decide +kernel
theorem dd_Pr_sizeOf_41 : decode prog_5_method_9_code 41 = .ok (.aaload, 1) := by decide +kernel
theorem dd_Pr_sizeOf_42 : decode prog_5_method_9_code 42 = .ok (.iload_n 2, 1) := by decide +kernel
theorem dd_Pr_sizeOf_43 : decode prog_5_method_9_code 43 = .ok (.iaload, 1) := by decide +kernel
theorem dd_Pr_sizeOf_44 : decode prog_5_method_9_code 44 = .ok (.goto (4), 3) := by decide +kernel
theorem dd_Pr_sizeOf_47 : decode prog_5_method_9_code 47 = .ok (.iconst 0, 1) := by decide +kernel
theorem dd_Pr_sizeOf_48 : decode prog_5_method_9_code 48 = .ok (.ireturn, 1) := by decide +kernel
theorem dd_Pr_frameSizeOf_0 : decode prog_5_method_10_code 0 = .ok (.iconst 0, 1) := by decide +kernel
theorem dd_Pr_frameSizeOf_1 : decode prog_5_method_10_code 1 = .ok (.istore_n 2, 1) := by decide +kernel
theorem dd_Pr_frameSizeOf_2 : decode prog_5_method_10_code 2 = .ok (.iconst 0, 1) := by decide +kernel
theorem dd_Pr_frameSizeOf_3 : decode prog_5_method_10_code 3 = .ok (.istore_n 3, 1) := by decide +kernel
theorem dd_Pr_frameSizeOf_4 : decode prog_5_method_10_code 4 = .ok (.iload_n 3, 1) := by decide +kernel
theorem dd_Pr_frameSizeOf_5 : decode prog_5_method_10_code 5 = .ok (.aload_n 0, 1) := by decide +kernel
theorem dd_Pr_frameSizeOf_6 : decode prog_5_method_10_code 6 = .ok (.getfield 16, 3) := by decide +kernel
theorem dd_Pr_frameSizeOf_9 : decode prog_5_method_10_code 9 = .ok (.iload_n 1, 1) := by decide +kernel
theorem dd_Pr_frameSizeOf_10 : decode prog_5_method_10_code 10 = .ok (.iaload, 1) := by decide +kernel
theorem dd_Pr_frameSizeOf_11 : decode prog_5_method_10_code 11 = .ok (.if_icmp .ge (20), 3) := by decide +kernel
theorem dd_Pr_frameSizeOf_14 : decode prog_5_method_10_code 14 = .ok (.iload_n 2, 1) := by decide +kernel
theorem dd_Pr_frameSizeOf_15 : decode prog_5_method_10_code 15 = .ok (.aload_n 0, 1) := by decide +kernel
theorem dd_Pr_frameSizeOf_16 : decode prog_5_method_10_code 16 = .ok (.getfield 11, 3) := by decide +kernel
theorem dd_Pr_frameSizeOf_19 : decode prog_5_method_10_code 19 = .ok (.iload_n 1, 1) := by decide +kernel
theorem dd_Pr_frameSizeOf_20 : decode prog_5_method_10_code 20 = .ok (.aaload, 1) := by decide +kernel
theorem dd_Pr_frameSizeOf_21 : decode prog_5_method_10_code 21 = .ok (.iload_n 3, 1) := by decide +kernel
theorem dd_Pr_frameSizeOf_22 : decode prog_5_method_10_code 22 = .ok (.iaload, 1) := by decide +kernel
theorem dd_Pr_frameSizeOf_23 : decode prog_5_method_10_code 23 = .ok (.iadd, 1) := by decide +kernel
theorem dd_Pr_frameSizeOf_24 : decode prog_5_method_10_code 24 = .ok (.istore_n 2, 1) := by decide +kernel
theorem dd_Pr_frameSizeOf_25 : decode prog_5_method_10_code 25 = .ok (.iinc 3 1, 3) := by decide +kernel
theorem dd_Pr_frameSizeOf_28 : decode prog_5_method_10_code 28 = .ok (.goto (-24), 3) := by decide +kernel
theorem dd_Pr_frameSizeOf_31 : decode prog_5_method_10_code 31 = .ok (.iload_n 2, 1) := by decide +kernel
theorem dd_Pr_frameSizeOf_32 : decode prog_5_method_10_code 32 = .ok (.ireturn, 1) := by decide +kernel
theorem dd_Pr_hasTarget_0 : decode prog_5_method_11_code 0 = .ok (.aload_n 0, 1) := by decide +kernel
theorem dd_Pr_hasTarget_1 : decode prog_5_method_11_code 1 = .ok (.getfield 29, 3) := by decide +kernel
theorem dd_Pr_hasTarget_4 : decode prog_5_method_11_code 4 = .ok (.iload_n 1, 1) := by decide +kernel
theorem dd_Pr_hasTarget_5 : decode prog_5_method_11_code 5 = .ok (.iaload, 1) := by decide +kernel
theorem dd_Pr_hasTarget_6 : decode prog_5_method_11_code 6 = .ok (.bipush 10, 2) := by decide +kernel
theorem dd_Pr_hasTarget_8 : decode prog_5_method_11_code 8 = .ok (.if_icmp .eq (25), 3) := by decide +kernel
theorem dd_Pr_hasTarget_11 : decode prog_5_method_11_code 11 = .ok (.aload_n 0, 1) := by decide +kernel
theorem dd_Pr_hasTarget_12 : decode prog_5_method_11_code 12 = .ok (.getfield 29, 3) := by decide +kernel
theorem dd_Pr_hasTarget_15 : decode prog_5_method_11_code 15 = .ok (.iload_n 1, 1) := by decide +kernel
theorem dd_Pr_hasTarget_16 : decode prog_5_method_11_code 16 = .ok (.iaload, 1) := by decide +kernel
theorem dd_Pr_hasTarget_17 : decode prog_5_method_11_code 17 = .ok (.bipush 11, 2) := by decide +kernel
theorem dd_Pr_hasTarget_19 : decode prog_5_method_11_code 19 = .ok (.if_icmp .eq (14), 3) := by decide +kernel
theorem dd_Pr_hasTarget_22 : decode prog_5_method_11_code 22 = .ok (.aload_n 0, 1) := by decide +kernel
theorem dd_Pr_hasTarget_23 : decode prog_5_method_11_code 23 = .ok (.getfield 29, 3) := by decide +kernel
theorem dd_Pr_hasTarget_26 : decode prog_5_method_11_code 26 = .ok (.iload_n 1, 1) := by decide +kernel
theorem dd_Pr_hasTarget_27 : decode prog_5_method_11_code 27 = .ok (.iaload, 1) := by decide +kernel
theorem dd_Pr_hasTarget_28 : decode prog_5_method_11_code 28 = .ok (.bipush 12, 2) := by decide +kernel
theorem dd_Pr_hasTarget_30 : decode prog_5_method_11_code 30 = .ok (.if_icmp .ne (7), 3) := by decide +kernel
theorem dd_Pr_hasTarget_33 : decode prog_5_method_11_code 33 = .ok (.iconst 1, 1) := by decide +kernel
theorem dd_Pr_hasTarget_34 : decode prog_5_method_11_code 34 = .ok (.goto (4), 3) := by decide +kernel
theorem dd_Pr_hasTarget_37 : decode prog_5_method_11_code 37 = .ok (.iconst 0, 1) := by decide +kernel
theorem dd_Pr_hasTarget_38 : decode prog_5_method_11_code 38 = .ok (.ireturn, 1) := by decide +kernel
theorem dd_Pr_targetOf_0 : decode prog_5_method_12_code 0 = .ok (.aload_n 0, 1) := by decide +kernel
theorem dd_Pr_targetOf_1 : decode prog_5_method_12_code 1 = .ok (.getfield 29, 3) := by decide +kernel
theorem dd_Pr_targetOf_4 : decode prog_5_method_12_code 4 = .ok (.iload_n 1, 1) := by decide +kernel
theorem dd_Pr_targetOf_5 : decode prog_5_method_12_code 5 = .ok (.iaload, 1) := by decide +kernel
theorem dd_Pr_targetOf_6 : decode prog_5_method_12_code 6 = .ok (.bipush 10, 2) := by decide +kernel
theorem dd_Pr_targetOf_8 : decode prog_5_method_12_code 8 = .ok (.if_icmp .ne (10), 3) := by decide +kernel
theorem dd_Pr_targetOf_11 : decode prog_5_method_12_code 11 = .ok (.aload_n 0, 1) := by decide +kernel
theorem dd_Pr_targetOf_12 : decode prog_5_method_12_code 12 = .ok (.getfield 32, 3) := by decide +kernel
theorem dd_Pr_targetOf_15 : decode prog_5_method_12_code 15 = .ok (.iload_n 1, 1) := by decide +kernel
theorem dd_Pr_targetOf_16 : decode prog_5_method_12_code 16 = .ok (.iaload, 1) := by decide +kernel
theorem dd_Pr_targetOf_17 : decode prog_5_method_12_code 17 = .ok (.ireturn, 1) := by decide +kernel
theorem dd_Pr_targetOf_18 : decode prog_5_method_12_code 18 = .ok (.aload_n 0, 1) := by decide +kernel
theorem dd_Pr_targetOf_19 : decode prog_5_method_12_code 19 = .ok (.getfield 29, 3) := by decide +kernel
theorem dd_Pr_targetOf_22 : decode prog_5_method_12_code 22 = .ok (.iload_n 1, 1) := by decide +kernel
theorem dd_Pr_targetOf_23 : decode prog_5_method_12_code 23 = .ok (.iaload, 1) := by decide +kernel
theorem dd_Pr_targetOf_24 : decode prog_5_method_12_code 24 = .ok (.bipush 11, 2) := by decide +kernel
theorem dd_Pr_targetOf_26 : decode prog_5_method_12_code 26 = .ok (.if_icmp .ne (12), 3) := by decide +kernel
theorem dd_Pr_targetOf_29 : decode prog_5_method_12_code 29 = .ok (.aload_n 0, 1) := by decide +kernel
theorem dd_Pr_targetOf_30 : decode prog_5_method_12_code 30 = .ok (.getfield 35, 3) := by decide +kernel
theorem dd_Pr_targetOf_33 : decode prog_5_method_12_code 33 = .ok (.iload_n 1, 1) := by decide +kernel
theorem dd_Pr_targetOf_34 : decode prog_5_method_12_code 34 = .ok (.iaload, 1) := by decide +kernel
theorem dd_Pr_targetOf_35 : decode prog_5_method_12_code 35 = .ok (.goto (9), 3) := by decide +kernel
theorem dd_Pr_targetOf_38 : decode prog_5_method_12_code 38 = .ok (.aload_n 0, 1) := by decide +kernel
theorem dd_Pr_targetOf_39 : decode prog_5_method_12_code 39 = .ok (.getfield 38, 3) := by decide +kernel
theorem dd_Pr_targetOf_42 : decode prog_5_method_12_code 42 = .ok (.iload_n 1, 1) := by decide +kernel
theorem dd_Pr_targetOf_43 : decode prog_5_method_12_code 43 = .ok (.iaload, 1) := by decide +kernel
theorem dd_Pr_targetOf_44 : decode prog_5_method_12_code 44 = .ok (.ireturn, 1) := by decide +kernel
theorem dd_Pr_goalOf_0 : decode prog_5_method_13_code 0 = .ok (.aload_n 0, 1) := by decide +kernel
theorem dd_Pr_goalOf_1 : decode prog_5_method_13_code 1 = .ok (.getfield 20, 3) := by decide +kernel
theorem dd_Pr_goalOf_4 : decode prog_5_method_13_code 4 = .ok (.aload_n 0, 1) := by decide +kernel
theorem dd_Pr_goalOf_5 : decode prog_5_method_13_code 5 = .ok (.getfield 26, 3) := by decide +kernel
theorem dd_Pr_goalOf_8 : decode prog_5_method_13_code 8 = .ok (.iload_n 1, 1) := by decide +kernel
theorem dd_Pr_goalOf_9 : decode prog_5_method_13_code 9 = .ok (.iaload, 1) := by decide +kernel
theorem dd_Pr_goalOf_10 : decode prog_5_method_13_code 10 = .ok (.iaload, 1) := by decide +kernel
theorem dd_Pr_goalOf_11 : decode prog_5_method_13_code 11 = .ok (.aload_n 0, 1) := by decide +kernel
theorem dd_Pr_goalOf_12 : decode prog_5_method_13_code 12 = .ok (.iload_n 1, 1) := by decide +kernel
theorem dd_Pr_goalOf_13 : decode prog_5_method_13_code 13 = .ok (.invokevirtual 67, 3) := by decide +kernel
theorem dd_Pr_goalOf_16 : decode prog_5_method_13_code 16 = .ok (.iadd, 1) := by decide +kernel
theorem dd_Pr_goalOf_17 : decode prog_5_method_13_code 17 = .ok (.ireturn, 1) := by decide +kernel
theorem dd_Pr_isWhole_0 : decode prog_5_method_14_code 0 = .ok (.iconst 0, 1) := by decide +kernel
theorem dd_Pr_isWhole_1 : decode prog_5_method_14_code 1 = .ok (.istore_n 1, 1) := by decide +kernel
theorem dd_Pr_isWhole_2 : decode prog_5_method_14_code 2 = .ok (.iload_n 1, 1) := by decide +kernel
theorem dd_Pr_isWhole_3 : decode prog_5_method_14_code 3 = .ok (.aload_n 0, 1) := by decide +kernel
theorem dd_Pr_isWhole_4 : decode prog_5_method_14_code 4 = .ok (.getfield 41, 3) := by decide +kernel
theorem dd_Pr_isWhole_7 : decode prog_5_method_14_code 7 = .ok (.if_icmp .ge (55), 3) := by decide +kernel
theorem dd_Pr_isWhole_10 : decode prog_5_method_14_code 10 = .ok (.aload_n 0, 1) := by decide +kernel
theorem dd_Pr_isWhole_11 : decode prog_5_method_14_code 11 = .ok (.getfield 23, 3) := by decide +kernel
theorem dd_Pr_isWhole_14 : decode prog_5_method_14_code 14 = .ok (.iload_n 1, 1) := by decide +kernel
theorem dd_Pr_isWhole_15 : decode prog_5_method_14_code 15 = .ok (.iaload, 1) := by decide +kernel
theorem dd_Pr_isWhole_16 : decode prog_5_method_14_code 16 = .ok (.ifCond .ne (5), 3) := by decide +kernel
theorem dd_Pr_isWhole_19 : decode prog_5_method_14_code 19 = .ok (.iconst 0, 1) := by decide +kernel
theorem dd_Pr_isWhole_20 : decode prog_5_method_14_code 20 = .ok (.ireturn, 1) := by decide +kernel
theorem dd_Pr_isWhole_21 : decode prog_5_method_14_code 21 = .ok (.aload_n 0, 1) := by decide +kernel
theorem dd_Pr_isWhole_22 : decode prog_5_method_14_code 22 = .ok (.getfield 29, 3) := by decide +kernel
theorem dd_Pr_isWhole_25 : decode prog_5_method_14_code 25 = .ok (.aload_n 0, 1) := by decide +kernel
theorem dd_Pr_isWhole_26 : decode prog_5_method_14_code 26 = .ok (.getfield 20, 3) := by decide +kernel
theorem dd_Pr_isWhole_29 : decode prog_5_method_14_code 29 = .ok (.iload_n 1, 1) := by decide +kernel
theorem dd_Pr_isWhole_30 : decode prog_5_method_14_code 30 = .ok (.iaload, 1) := by decide +kernel
theorem dd_Pr_isWhole_31 : decode prog_5_method_14_code 31 = .ok (.aload_n 0, 1) := by decide +kernel
theorem dd_Pr_isWhole_32 : decode prog_5_method_14_code 32 = .ok (.getfield 23, 3) := by decide +kernel
theorem dd_Pr_isWhole_35 : decode prog_5_method_14_code 35 = .ok (.iload_n 1, 1) := by decide +kernel
theorem dd_Pr_isWhole_36 : decode prog_5_method_14_code 36 = .ok (.iaload, 1) := by decide +kernel
theorem dd_Pr_isWhole_37 : decode prog_5_method_14_code 37 = .ok (.iadd, 1) := by decide +kernel
theorem dd_Pr_isWhole_38 : decode prog_5_method_14_code 38 = .ok (.iconst 1, 1) := by decide +kernel
theorem dd_Pr_isWhole_39 : decode prog_5_method_14_code 39 = .ok (.isub, 1) := by decide +kernel
theorem dd_Pr_isWhole_40 : decode prog_5_method_14_code 40 = .ok (.iaload, 1) := by decide +kernel
theorem dd_Pr_isWhole_41 : decode prog_5_method_14_code 41 = .ok (.istore_n 2, 1) := by decide +kernel
theorem dd_Pr_isWhole_42 : decode prog_5_method_14_code 42 = .ok (.iload_n 2, 1) := by decide +kernel
theorem dd_Pr_isWhole_43 : decode prog_5_method_14_code 43 = .ok (.bipush 10, 2) := by decide +kernel
theorem dd_Pr_isWhole_45 : decode prog_5_method_14_code 45 = .ok (.if_icmp .eq (11), 3) := by decide +kernel
theorem dd_Pr_isWhole_48 : decode prog_5_method_14_code 48 = .ok (.iload_n 2, 1) := by decide +kernel
theorem dd_Pr_isWhole_49 : decode prog_5_method_14_code 49 = .ok (.bipush 14, 2) := by decide +kernel
theorem dd_Pr_isWhole_51 : decode prog_5_method_14_code 51 = .ok (.if_icmp .eq (5), 3) := by decide +kernel
theorem dd_Pr_isWhole_54 : decode prog_5_method_14_code 54 = .ok (.iconst 0, 1) := by decide +kernel
theorem dd_Pr_isWhole_55 : decode prog_5_method_14_code 55 = .ok (.ireturn, 1) := by decide +kernel
theorem dd_Pr_isWhole_56 : decode prog_5_method_14_code 56 = .ok (.iinc 1 1, 3) := by decide +kernel
theorem dd_Pr_isWhole_59 : decode prog_5_method_14_code 59 = .ok (.goto (-57), 3) := by decide +kernel
theorem dd_Pr_isWhole_62 : decode prog_5_method_14_code 62 = .ok (.aload_n 0, 1) := by decide +kernel
theorem dd_Pr_isWhole_63 : decode prog_5_method_14_code 63 = .ok (.getfield 41, 3) := by decide +kernel
theorem dd_Pr_isWhole_66 : decode prog_5_method_14_code 66 = .ok (.ifCond .le (7), 3) := by decide +kernel
theorem dd_Pr_isWhole_69 : decode prog_5_method_14_code 69 = .ok (.iconst 1, 1) := by decide +kernel
theorem dd_Pr_isWhole_70 : decode prog_5_method_14_code 70 = .ok (.goto (4), 3) := by decide +kernel
theorem dd_Pr_isWhole_73 : decode prog_5_method_14_code 73 = .ok (.iconst 0, 1) := by decide +kernel
theorem dd_Pr_isWhole_74 : decode prog_5_method_14_code 74 = .ok (.ireturn, 1) := by decide +kernel
theorem dd_Pr_hasAllTargets_0 : decode prog_5_method_15_code 0 = .ok (.iconst 0, 1) := by decide +kernel
theorem dd_Pr_hasAllTargets_1 : decode prog_5_method_15_code 1 = .ok (.istore_n 1, 1) := by decide +kernel
theorem dd_Pr_hasAllTargets_2 : decode prog_5_method_15_code 2 = .ok (.iload_n 1, 1) := by decide +kernel
theorem dd_Pr_hasAllTargets_3 : decode prog_5_method_15_code 3 = .ok (.aload_n 0, 1) := by decide +kernel
theorem dd_Pr_hasAllTargets_4 : decode prog_5_method_15_code 4 = .ok (.getfield 45, 3) := by decide +kernel
theorem dd_Pr_hasAllTargets_7 : decode prog_5_method_15_code 7 = .ok (.if_icmp .ge (37), 3) := by decide +kernel
theorem dd_Pr_hasAllTargets_10 : decode prog_5_method_15_code 10 = .ok (.aload_n 0, 1) := by decide +kernel
theorem dd_Pr_hasAllTargets_11 : decode prog_5_method_15_code 11 = .ok (.iload_n 1, 1) := by decide +kernel
theorem dd_Pr_hasAllTargets_12 : decode prog_5_method_15_code 12 = .ok (.invokevirtual 71, 3) := by decide +kernel
theorem dd_Pr_hasAllTargets_15 : decode prog_5_method_15_code 15 = .ok (.ifCond .eq (23), 3) := by decide +kernel
theorem dd_Pr_hasAllTargets_18 : decode prog_5_method_15_code 18 = .ok (.aload_n 0, 1) := by decide +kernel
theorem dd_Pr_hasAllTargets_19 : decode prog_5_method_15_code 19 = .ok (.aload_n 0, 1) := by decide +kernel
theorem dd_Pr_hasAllTargets_20 : decode prog_5_method_15_code 20 = .ok (.getfield 26, 3) := by decide +kernel
theorem dd_Pr_hasAllTargets_23 : decode prog_5_method_15_code 23 = .ok (.iload_n 1, 1) := by decide +kernel
theorem dd_Pr_hasAllTargets_24 : decode prog_5_method_15_code 24 = .ok (.iaload, 1) := by decide +kernel
theorem dd_Pr_hasAllTargets_25 : decode prog_5_method_15_code 25 = .ok (.aload_n 0, 1) := by decide +kernel
theorem dd_Pr_hasAllTargets_26 : decode prog_5_method_15_code 26 = .ok (.iload_n 1, 1) := by decide +kernel
theorem dd_Pr_hasAllTargets_27 : decode prog_5_method_15_code 27 = .ok (.invokevirtual 67, 3) := by decide +kernel
theorem dd_Pr_hasAllTargets_30 : decode prog_5_method_15_code 30 = .ok (.invokevirtual 74, 3) := by decide +kernel
theorem dd_Pr_hasAllTargets_33 : decode prog_5_method_15_code 33 = .ok (.ifCond .ne (5), 3) := by decide +kernel
theorem dd_Pr_hasAllTargets_36 : decode prog_5_method_15_code 36 = .ok (.iconst 0, 1) := by decide +kernel
theorem dd_Pr_hasAllTargets_37 : decode prog_5_method_15_code 37 = .ok (.ireturn, 1) := by decide +kernel
theorem dd_Pr_hasAllTargets_38 : decode prog_5_method_15_code 38 = .ok (.iinc 1 1, 3) := by decide +kernel
theorem dd_Pr_hasAllTargets_41 : decode prog_5_method_15_code 41 = .ok (.goto (-39), 3) := by decide +kernel
theorem dd_Pr_hasAllTargets_44 : decode prog_5_method_15_code 44 = .ok (.iconst 1, 1) := by decide +kernel
theorem dd_Pr_hasAllTargets_45 : decode prog_5_method_15_code 45 = .ok (.ireturn, 1) := by decide +kernel
theorem dd_Pr_hasAllCallees_0 : decode prog_5_method_16_code 0 = .ok (.iconst 0, 1) := by decide +kernel
theorem dd_Pr_hasAllCallees_1 : decode prog_5_method_16_code 1 = .ok (.istore_n 1, 1) := by decide +kernel
theorem dd_Pr_hasAllCallees_2 : decode prog_5_method_16_code 2 = .ok (.iload_n 1, 1) := by decide +kernel
theorem dd_Pr_hasAllCallees_3 : decode prog_5_method_16_code 3 = .ok (.aload_n 0, 1) := by decide +kernel
theorem dd_Pr_hasAllCallees_4 : decode prog_5_method_16_code 4 = .ok (.getfield 45, 3) := by decide +kernel
theorem dd_Pr_hasAllCallees_7 : decode prog_5_method_16_code 7 = .ok (.if_icmp .ge (35), 3) := by decide +kernel
theorem dd_Pr_hasAllCallees_10 : decode prog_5_method_16_code 10 = .ok (.aload_n 0, 1) := by decide +kernel
theorem dd_Pr_hasAllCallees_11 : decode prog_5_method_16_code 11 = .ok (.getfield 29, 3) := by decide +kernel
theorem dd_Pr_hasAllCallees_14 : decode prog_5_method_16_code 14 = .ok (.iload_n 1, 1) := by decide +kernel
theorem dd_Pr_hasAllCallees_15 : decode prog_5_method_16_code 15 = .ok (.iaload, 1) := by decide +kernel
theorem dd_Pr_hasAllCallees_16 : decode prog_5_method_16_code 16 = .ok (.bipush 13, 2) := by decide +kernel
theorem dd_Pr_hasAllCallees_18 : decode prog_5_method_16_code 18 = .ok (.if_icmp .ne (18), 3) := by decide +kernel
theorem dd_Pr_hasAllCallees_21 : decode prog_5_method_16_code 21 = .ok (.aload_n 0, 1) := by decide +kernel
theorem dd_Pr_hasAllCallees_22 : decode prog_5_method_16_code 22 = .ok (.aload_n 0, 1) := by decide +kernel
theorem dd_Pr_hasAllCallees_23 : decode prog_5_method_16_code 23 = .ok (.getfield 32, 3) := by decide +kernel
theorem dd_Pr_hasAllCallees_26 : decode prog_5_method_16_code 26 = .ok (.iload_n 1, 1) := by decide +kernel
theorem dd_Pr_hasAllCallees_27 : decode prog_5_method_16_code 27 = .ok (.iaload, 1) := by decide +kernel
theorem dd_Pr_hasAllCallees_28 : decode prog_5_method_16_code 28 = .ok (.invokevirtual 64, 3) := by decide +kernel
theorem dd_Pr_hasAllCallees_31 : decode prog_5_method_16_code 31 = .ok (.ifCond .ne (5), 3) := by decide +kernel
theorem dd_Pr_hasAllCallees_34 : decode prog_5_method_16_code 34 = .ok (.iconst 0, 1) := by decide +kernel
theorem dd_Pr_hasAllCallees_35 : decode prog_5_method_16_code 35 = .ok (.ireturn, 1) := by decide +kernel
theorem dd_Pr_hasAllCallees_36 : decode prog_5_method_16_code 36 = .ok (.iinc 1 1, 3) := by decide +kernel
theorem dd_Pr_hasAllCallees_39 : decode prog_5_method_16_code 39 = .ok (.goto (-37), 3) := by decide +kernel
theorem dd_Pr_hasAllCallees_42 : decode prog_5_method_16_code 42 = .ok (.iconst 1, 1) := by decide +kernel
theorem dd_Pr_hasAllCallees_43 : decode prog_5_method_16_code 43 = .ok (.ireturn, 1) := by decide +kernel
end
section
theorem Pr_addFunction_b0 {E : fb_E} {σ : fb_S} {Q : Int → fb_S → Prop} (h : (-2147483648 ≤ (σ.1 41) ∧ (σ.1 41) < 2147483648) ∧ (((σ.1 41) < 6 → (0 ≤ (σ.1 41) ∧ (σ.1 41) < 6) ∧ (Q (((σ.1 41) + 1) - 1) (fb_sg (fb_sm σ 14 (σ.1 41) (σ.1 42)) 41 ((σ.1 41) + 1)))) ∧ (¬ (σ.1 41) < 6 → Q (-1) σ))) : fb_V E fb_Pr_addFunction 0 [.inr 1] [] σ Q := by
  refine fb_aload_n dd_Pr_addFunction_0 rfl (by decide) (fb_getI (x := σ.1 41) 1 9 dd_Pr_addFunction_1 rfl rfl rfl (by decide) lk_Pr_41 rfl (fb_bipush dd_Pr_addFunction_4 (by decide) ?_))
  obtain ⟨q1, h⟩ := h
  refine fb_icmp_lt (tgt := 11) dd_Pr_addFunction_6 rfl q1 (by decide) (fun hc => ?_) (fun hc => ?_)
  · replace h := h.1 hc
    refine fb_aload_n dd_Pr_addFunction_11 rfl (by decide) (fb_getR 1 2 dd_Pr_addFunction_12 rfl rfl rfl (by decide) lk_Pr_20 (fb_aload_n dd_Pr_addFunction_15 rfl (by decide) (fb_getI (x := σ.1 41) 1 9 dd_Pr_addFunction_16 rfl rfl rfl (by decide) lk_Pr_41 rfl (fb_aload_n dd_Pr_addFunction_19 rfl (by decide) (fb_getI (x := σ.1 42) 1 10 dd_Pr_addFunction_20 rfl rfl rfl (by decide) lk_Pr_45 rfl ?_)))))
    obtain ⟨q2, h⟩ := h
    refine fb_ist dd_Pr_addFunction_23 rfl q2 (fb_aload_n dd_Pr_addFunction_24 rfl (by decide) (fb_dup dd_Pr_addFunction_25 (fb_getI (x := σ.1 41) 1 9 dd_Pr_addFunction_26 rfl rfl rfl (by decide) lk_Pr_41 rfl (fb_iconst dd_Pr_addFunction_29 (fb_iadd dd_Pr_addFunction_30 (fb_putI 1 9 dd_Pr_addFunction_31 rfl rfl rfl (by decide) rfl (by decide +kernel) lk_Pr_41 (fb_aload_n dd_Pr_addFunction_34 rfl (by decide) ?_)))))))
    refine fb_getI (x := (σ.1 41) + 1) 1 9 dd_Pr_addFunction_35 rfl rfl rfl (by decide) lk_Pr_41 rfl (fb_iconst dd_Pr_addFunction_38 (fb_isub dd_Pr_addFunction_39 ?_))
    exact fb_iret dd_Pr_addFunction_40 rfl h
  · replace h := h.2 hc
    refine fb_iconst dd_Pr_addFunction_9 ?_
    exact fb_iret dd_Pr_addFunction_10 rfl h

theorem Pr_addVariable_b0 {E : fb_E} {σ : fb_S} {Q : Int → fb_S → Prop} (v1 : Int) (h : (-2147483648 ≤ ((σ.1 41) - 1) ∧ ((σ.1 41) - 1) < 2147483648) ∧ ((((σ.1 41) - 1) < 0 → Q (-1) σ) ∧ (¬ ((σ.1 41) - 1) < 0 → (-2147483648 ≤ v1 ∧ v1 < 2147483648) ∧ ((v1 < 1 → Q (-1) σ) ∧ (¬ v1 < 1 → (8 < v1 → Q (-1) σ) ∧ (¬ 8 < v1 → (0 ≤ ((σ.1 41) - 1) ∧ ((σ.1 41) - 1) < 6) ∧ ((-2147483648 ≤ (σ.2 13 ((σ.1 41) - 1)) ∧ (σ.2 13 ((σ.1 41) - 1)) < 2147483648) ∧ (((σ.2 13 ((σ.1 41) - 1)) < 6 → (0 ≤ (σ.2 13 ((σ.1 41) - 1)) ∧ (σ.2 13 ((σ.1 41) - 1)) < 6) ∧ (Q (σ.2 13 ((σ.1 41) - 1)) (fb_sm (fb_sm σ (7 + ((σ.1 41) - 1).toNat) (σ.2 13 ((σ.1 41) - 1)) v1) 13 ((σ.1 41) - 1) (((fb_sm σ (7 + ((σ.1 41) - 1).toNat) (σ.2 13 ((σ.1 41) - 1)) v1).2 13 ((σ.1 41) - 1)) + 1)))) ∧ (¬ (σ.2 13 ((σ.1 41) - 1)) < 6 → Q (-1) σ))))))))) : fb_V E fb_Pr_addVariable 0 [.inr 1, .inl v1, .inr 999, .inr 999] [] σ Q := by
  refine fb_aload_n dd_Pr_addVariable_0 rfl (by decide) (fb_getI (x := σ.1 41) 1 9 dd_Pr_addVariable_1 rfl rfl rfl (by decide) lk_Pr_41 rfl (fb_iconst dd_Pr_addVariable_4 (fb_isub dd_Pr_addVariable_5 (fb_istore_n dd_Pr_addVariable_6 rfl rfl rfl (fb_iload_n dd_Pr_addVariable_7 rfl ?_)))))
  obtain ⟨q1, h⟩ := h
  refine fb_if_lt (tgt := 33) dd_Pr_addVariable_8 rfl q1 (fun hc => ?_) (fun hc => ?_)
  · replace h := h.1 hc
    refine fb_iconst dd_Pr_addVariable_33 ?_
    exact fb_iret dd_Pr_addVariable_34 rfl h
  · replace h := h.2 hc
    refine fb_iload_n dd_Pr_addVariable_11 rfl (fb_iconst dd_Pr_addVariable_12 ?_)
    obtain ⟨q2, h⟩ := h
    refine fb_icmp_lt (tgt := 33) dd_Pr_addVariable_13 rfl q2 (by decide) (fun hc => ?_) (fun hc => ?_)
    · replace h := h.1 hc
      refine fb_iconst dd_Pr_addVariable_33 ?_
      exact fb_iret dd_Pr_addVariable_34 rfl h
    · replace h := h.2 hc
      refine fb_iload_n dd_Pr_addVariable_16 rfl (fb_bipush dd_Pr_addVariable_17 (by decide) ?_)
      refine fb_icmp_gt (tgt := 33) dd_Pr_addVariable_19 rfl q2 (by decide) (fun hc => ?_) (fun hc => ?_)
      · replace h := h.1 hc
        refine fb_iconst dd_Pr_addVariable_33 ?_
        exact fb_iret dd_Pr_addVariable_34 rfl h
      · replace h := h.2 hc
        refine fb_aload_n dd_Pr_addVariable_22 rfl (by decide) (fb_getR 1 1 dd_Pr_addVariable_23 rfl rfl rfl (by decide) lk_Pr_16 (fb_iload_n dd_Pr_addVariable_26 rfl ?_))
        obtain ⟨q3, h⟩ := h
        refine fb_ild (x := σ.2 13 ((σ.1 41) - 1)) dd_Pr_addVariable_27 rfl q3 rfl (fb_bipush dd_Pr_addVariable_28 (by decide) ?_)
        obtain ⟨q4, h⟩ := h
        refine fb_icmp_lt (tgt := 35) dd_Pr_addVariable_30 rfl q4 (by decide) (fun hc => ?_) (fun hc => ?_)
        · replace h := h.1 hc
          refine fb_aload_n dd_Pr_addVariable_35 rfl (by decide) (fb_getR 1 1 dd_Pr_addVariable_36 rfl rfl rfl (by decide) lk_Pr_16 (fb_iload_n dd_Pr_addVariable_39 rfl (fb_ild (x := σ.2 13 ((σ.1 41) - 1)) dd_Pr_addVariable_40 rfl q3 rfl (fb_istore_n dd_Pr_addVariable_41 rfl rfl rfl (fb_aload_n dd_Pr_addVariable_42 rfl (by decide) (fb_getR 1 0 dd_Pr_addVariable_43 rfl rfl rfl (by decide) lk_Pr_11 (fb_iload_n dd_Pr_addVariable_46 rfl ?_)))))))
          refine fb_ald dd_Pr_addVariable_47 rfl q3 (fb_iload_n dd_Pr_addVariable_48 rfl (fb_iload_n dd_Pr_addVariable_49 rfl ?_))
          obtain ⟨q5, h⟩ := h
          refine fb_ist dd_Pr_addVariable_50 (fb_row7 q3) q5 (fb_aload_n dd_Pr_addVariable_51 rfl (by decide) (fb_getR 1 1 dd_Pr_addVariable_52 rfl rfl rfl (by decide) lk_Pr_16 (fb_iload_n dd_Pr_addVariable_55 rfl (fb_dup2 dd_Pr_addVariable_56 (fb_ild (x := (fb_sm σ (7 + ((σ.1 41) - 1).toNat) (σ.2 13 ((σ.1 41) - 1)) v1).2 13 ((σ.1 41) - 1)) dd_Pr_addVariable_57 rfl q3 rfl (fb_iconst dd_Pr_addVariable_58 (fb_iadd dd_Pr_addVariable_59 ?_)))))))
          refine fb_ist dd_Pr_addVariable_60 rfl q3 (fb_iload_n dd_Pr_addVariable_61 rfl ?_)
          exact fb_iret dd_Pr_addVariable_62 rfl h
        · replace h := h.2 hc
          refine fb_iconst dd_Pr_addVariable_33 ?_
          exact fb_iret dd_Pr_addVariable_34 rfl h

theorem Pr_addInstruction_b0 {E : fb_E} {σ : fb_S} {Q : Int → fb_S → Prop} (v1 v2 v3 v4 : Int) (h : (-2147483648 ≤ ((σ.1 41) - 1) ∧ ((σ.1 41) - 1) < 2147483648) ∧ ((((σ.1 41) - 1) < 0 → Q (-1) σ) ∧ (¬ ((σ.1 41) - 1) < 0 → (0 ≤ ((σ.1 41) - 1) ∧ ((σ.1 41) - 1) < 6) ∧ ((-2147483648 ≤ (σ.2 15 ((σ.1 41) - 1)) ∧ (σ.2 15 ((σ.1 41) - 1)) < 2147483648) ∧ ((24 ≤ (σ.2 15 ((σ.1 41) - 1)) → Q (-1) σ) ∧ (¬ 24 ≤ (σ.2 15 ((σ.1 41) - 1)) → (-2147483648 ≤ (σ.1 42) ∧ (σ.1 42) < 2147483648) ∧ (((σ.1 42) < 60 → (-2147483648 ≤ v1 ∧ v1 < 2147483648) ∧ ((v1 < 0 → Q (-1) σ) ∧ (¬ v1 < 0 → (v1 ≤ 15 → (0 ≤ (3 * v1) ∧ (3 * v1) < 48) ∧ (fb_V E fb_Pr_suits 0 [.inr 1, .inl (fb_sorts ((3 * v1) : Int).toNat), .inl v2, .inr 999] [] σ (fun r7 s8 => (-2147483648 ≤ r7 ∧ r7 < 2147483648) ∧ ((r7 = 0 → Q (-1) s8) ∧ (¬ r7 = 0 → (0 ≤ ((3 * v1) + 1) ∧ ((3 * v1) + 1) < 48) ∧ (fb_V E fb_Pr_suits 0 [.inr 1, .inl (fb_sorts (((3 * v1) + 1) : Int).toNat), .inl v3, .inr 999] [] s8 (fun r11 s12 => (-2147483648 ≤ r11 ∧ r11 < 2147483648) ∧ ((r11 = 0 → Q (-1) s12) ∧ (¬ r11 = 0 → (0 ≤ ((3 * v1) + 2) ∧ ((3 * v1) + 2) < 48) ∧ (fb_V E fb_Pr_suits 0 [.inr 1, .inl (fb_sorts (((3 * v1) + 2) : Int).toNat), .inl v4, .inr 999] [] s12 (fun r15 s16 => (-2147483648 ≤ r15 ∧ r15 < 2147483648) ∧ ((¬ r15 = 0 → (0 ≤ (s16.1 42) ∧ (s16.1 42) < 60) ∧ (Q (((s16.2 15 ((σ.1 41) - 1)) + 1) - 1) (fb_sm (fb_sg (fb_sm (fb_sm (fb_sm (fb_sm (fb_sm s16 16 (s16.1 42) ((σ.1 41) - 1)) 17 (s16.1 42) v1) 18 (s16.1 42) v2) 19 (s16.1 42) v3) 20 (s16.1 42) v4) 42 ((s16.1 42) + 1)) 15 ((σ.1 41) - 1) ((s16.2 15 ((σ.1 41) - 1)) + 1)))) ∧ (r15 = 0 → Q (-1) s16))))))))))))) ∧ (¬ v1 ≤ 15 → Q (-1) σ)))) ∧ (¬ (σ.1 42) < 60 → Q (-1) σ)))))))) : fb_V E fb_Pr_addInstruction 0 [.inr 1, .inl v1, .inl v2, .inl v3, .inl v4, .inr 999] [] σ Q := by
  refine fb_aload_n dd_Pr_addInstruction_0 rfl (by decide) (fb_getI (x := σ.1 41) 1 9 dd_Pr_addInstruction_1 rfl rfl rfl (by decide) lk_Pr_41 rfl (fb_iconst dd_Pr_addInstruction_4 (fb_isub dd_Pr_addInstruction_5 (fb_istore dd_Pr_addInstruction_6 rfl rfl rfl (fb_iload dd_Pr_addInstruction_8 rfl ?_)))))
  obtain ⟨q1, h⟩ := h
  refine fb_if_lt (tgt := 34) dd_Pr_addInstruction_10 rfl q1 (fun hc => ?_) (fun hc => ?_)
  · replace h := h.1 hc
    refine fb_iconst dd_Pr_addInstruction_34 ?_
    exact fb_iret dd_Pr_addInstruction_35 rfl h
  · replace h := h.2 hc
    refine fb_aload_n dd_Pr_addInstruction_13 rfl (by decide) (fb_getR 1 3 dd_Pr_addInstruction_14 rfl rfl rfl (by decide) lk_Pr_23 (fb_iload dd_Pr_addInstruction_17 rfl ?_))
    obtain ⟨q2, h⟩ := h
    refine fb_ild (x := σ.2 15 ((σ.1 41) - 1)) dd_Pr_addInstruction_19 rfl q2 rfl (fb_bipush dd_Pr_addInstruction_20 (by decide) ?_)
    obtain ⟨q3, h⟩ := h
    refine fb_icmp_ge (tgt := 34) dd_Pr_addInstruction_22 rfl q3 (by decide) (fun hc => ?_) (fun hc => ?_)
    · replace h := h.1 hc
      refine fb_iconst dd_Pr_addInstruction_34 ?_
      exact fb_iret dd_Pr_addInstruction_35 rfl h
    · replace h := h.2 hc
      refine fb_aload_n dd_Pr_addInstruction_25 rfl (by decide) (fb_getI (x := σ.1 42) 1 10 dd_Pr_addInstruction_26 rfl rfl rfl (by decide) lk_Pr_45 rfl (fb_bipush dd_Pr_addInstruction_29 (by decide) ?_))
      obtain ⟨q4, h⟩ := h
      refine fb_icmp_lt (tgt := 36) dd_Pr_addInstruction_31 rfl q4 (by decide) (fun hc => ?_) (fun hc => ?_)
      · replace h := h.1 hc
        refine fb_iload_n dd_Pr_addInstruction_36 rfl ?_
        obtain ⟨q5, h⟩ := h
        refine fb_if_lt (tgt := 46) dd_Pr_addInstruction_37 rfl q5 (fun hc => ?_) (fun hc => ?_)
        · replace h := h.1 hc
          refine fb_iconst dd_Pr_addInstruction_46 ?_
          exact fb_iret dd_Pr_addInstruction_47 rfl h
        · replace h := h.2 hc
          refine fb_iload_n dd_Pr_addInstruction_40 rfl (fb_bipush dd_Pr_addInstruction_41 (by decide) ?_)
          refine fb_icmp_le (tgt := 48) dd_Pr_addInstruction_43 rfl q5 (by decide) (fun hc => ?_) (fun hc => ?_)
          · replace h := h.1 hc
            refine fb_aload_n dd_Pr_addInstruction_48 rfl (by decide) (fb_sorts_get dd_Pr_addInstruction_49 st_Pr_48 (fb_iconst dd_Pr_addInstruction_52 (fb_iload_n dd_Pr_addInstruction_53 rfl (fb_imul dd_Pr_addInstruction_54 ?_))))
            obtain ⟨q6, h⟩ := h
            refine fb_sorts_ld dd_Pr_addInstruction_55 q6 (fb_iload_n dd_Pr_addInstruction_56 rfl ?_)
            refine fb_callVi (z := fb_Pr_suits) (k := 1) (vs := [.inl (fb_sorts ((3 * v1) : Int).toNat), .inl v2]) (st := []) dd_Pr_addInstruction_57 vw_Pr_51 (by decide) ⟨_, rfl⟩ rfl rfl (np := 2) (by decide +kernel) rfl rfl rfl rfl rfl (fb_mono h (fun r7 s8 h => ?_))
            obtain ⟨q9, h⟩ := h
            refine fb_if_eq (tgt := 98) dd_Pr_addInstruction_60 rfl q9 (fun hc => ?_) (fun hc => ?_)
            · replace h := h.1 hc
              refine fb_iconst dd_Pr_addInstruction_98 ?_
              exact fb_iret dd_Pr_addInstruction_99 rfl h
            · replace h := h.2 hc
              refine fb_aload_n dd_Pr_addInstruction_63 rfl (by decide) (fb_sorts_get dd_Pr_addInstruction_64 st_Pr_48 (fb_iconst dd_Pr_addInstruction_67 (fb_iload_n dd_Pr_addInstruction_68 rfl (fb_imul dd_Pr_addInstruction_69 (fb_iconst dd_Pr_addInstruction_70 (fb_iadd dd_Pr_addInstruction_71 ?_))))))
              obtain ⟨q10, h⟩ := h
              refine fb_sorts_ld dd_Pr_addInstruction_72 q10 (fb_iload_n dd_Pr_addInstruction_73 rfl ?_)
              refine fb_callVi (z := fb_Pr_suits) (k := 1) (vs := [.inl (fb_sorts (((3 * v1) + 1) : Int).toNat), .inl v3]) (st := []) dd_Pr_addInstruction_74 vw_Pr_51 (by decide) ⟨_, rfl⟩ rfl rfl (np := 2) (by decide +kernel) rfl rfl rfl rfl rfl (fb_mono h (fun r11 s12 h => ?_))
              obtain ⟨q13, h⟩ := h
              refine fb_if_eq (tgt := 98) dd_Pr_addInstruction_77 rfl q13 (fun hc => ?_) (fun hc => ?_)
              · replace h := h.1 hc
                refine fb_iconst dd_Pr_addInstruction_98 ?_
                exact fb_iret dd_Pr_addInstruction_99 rfl h
              · replace h := h.2 hc
                refine fb_aload_n dd_Pr_addInstruction_80 rfl (by decide) (fb_sorts_get dd_Pr_addInstruction_81 st_Pr_48 (fb_iconst dd_Pr_addInstruction_84 (fb_iload_n dd_Pr_addInstruction_85 rfl (fb_imul dd_Pr_addInstruction_86 (fb_iconst dd_Pr_addInstruction_87 (fb_iadd dd_Pr_addInstruction_88 ?_))))))
                obtain ⟨q14, h⟩ := h
                refine fb_sorts_ld dd_Pr_addInstruction_89 q14 (fb_iload dd_Pr_addInstruction_90 rfl ?_)
                refine fb_callVi (z := fb_Pr_suits) (k := 1) (vs := [.inl (fb_sorts (((3 * v1) + 2) : Int).toNat), .inl v4]) (st := []) dd_Pr_addInstruction_92 vw_Pr_51 (by decide) ⟨_, rfl⟩ rfl rfl (np := 2) (by decide +kernel) rfl rfl rfl rfl rfl (fb_mono h (fun r15 s16 h => ?_))
                obtain ⟨q17, h⟩ := h
                refine fb_if_ne (tgt := 100) dd_Pr_addInstruction_95 rfl q17 (fun hc => ?_) (fun hc => ?_)
                · replace h := h.1 hc
                  refine fb_aload_n dd_Pr_addInstruction_100 rfl (by decide) (fb_getR 1 4 dd_Pr_addInstruction_101 rfl rfl rfl (by decide) lk_Pr_26 (fb_aload_n dd_Pr_addInstruction_104 rfl (by decide) (fb_getI (x := s16.1 42) 1 10 dd_Pr_addInstruction_105 rfl rfl rfl (by decide) lk_Pr_45 rfl (fb_iload dd_Pr_addInstruction_108 rfl ?_))))
                  obtain ⟨q18, h⟩ := h
                  refine fb_ist dd_Pr_addInstruction_110 rfl q18 (fb_aload_n dd_Pr_addInstruction_111 rfl (by decide) (fb_getR 1 5 dd_Pr_addInstruction_112 rfl rfl rfl (by decide) lk_Pr_29 (fb_aload_n dd_Pr_addInstruction_115 rfl (by decide) (fb_getI (x := s16.1 42) 1 10 dd_Pr_addInstruction_116 rfl rfl rfl (by decide) lk_Pr_45 rfl (fb_iload_n dd_Pr_addInstruction_119 rfl (fb_ist dd_Pr_addInstruction_120 rfl q18 (fb_aload_n dd_Pr_addInstruction_121 rfl (by decide) ?_)))))))
                  refine fb_getR 1 6 dd_Pr_addInstruction_122 rfl rfl rfl (by decide) lk_Pr_32 (fb_aload_n dd_Pr_addInstruction_125 rfl (by decide) (fb_getI (x := s16.1 42) 1 10 dd_Pr_addInstruction_126 rfl rfl rfl (by decide) lk_Pr_45 rfl (fb_iload_n dd_Pr_addInstruction_129 rfl (fb_ist dd_Pr_addInstruction_130 rfl q18 (fb_aload_n dd_Pr_addInstruction_131 rfl (by decide) (fb_getR 1 7 dd_Pr_addInstruction_132 rfl rfl rfl (by decide) lk_Pr_35 (fb_aload_n dd_Pr_addInstruction_135 rfl (by decide) ?_)))))))
                  refine fb_getI (x := s16.1 42) 1 10 dd_Pr_addInstruction_136 rfl rfl rfl (by decide) lk_Pr_45 rfl (fb_iload_n dd_Pr_addInstruction_139 rfl (fb_ist dd_Pr_addInstruction_140 rfl q18 (fb_aload_n dd_Pr_addInstruction_141 rfl (by decide) (fb_getR 1 8 dd_Pr_addInstruction_142 rfl rfl rfl (by decide) lk_Pr_38 (fb_aload_n dd_Pr_addInstruction_145 rfl (by decide) (fb_getI (x := s16.1 42) 1 10 dd_Pr_addInstruction_146 rfl rfl rfl (by decide) lk_Pr_45 rfl (fb_iload dd_Pr_addInstruction_149 rfl ?_)))))))
                  refine fb_ist dd_Pr_addInstruction_151 rfl q18 (fb_aload_n dd_Pr_addInstruction_152 rfl (by decide) (fb_dup dd_Pr_addInstruction_153 (fb_getI (x := s16.1 42) 1 10 dd_Pr_addInstruction_154 rfl rfl rfl (by decide) lk_Pr_45 rfl (fb_iconst dd_Pr_addInstruction_157 (fb_iadd dd_Pr_addInstruction_158 (fb_putI 1 10 dd_Pr_addInstruction_159 rfl rfl rfl (by decide) rfl (by decide +kernel) lk_Pr_45 (fb_aload_n dd_Pr_addInstruction_162 rfl (by decide) ?_)))))))
                  refine fb_getR 1 3 dd_Pr_addInstruction_163 rfl rfl rfl (by decide) lk_Pr_23 (fb_iload dd_Pr_addInstruction_166 rfl (fb_dup2 dd_Pr_addInstruction_168 (fb_ild (x := s16.2 15 ((σ.1 41) - 1)) dd_Pr_addInstruction_169 rfl q2 rfl (fb_iconst dd_Pr_addInstruction_170 (fb_iadd dd_Pr_addInstruction_171 (fb_ist dd_Pr_addInstruction_172 rfl q2 (fb_aload_n dd_Pr_addInstruction_173 rfl (by decide) ?_)))))))
                  refine fb_getR 1 3 dd_Pr_addInstruction_174 rfl rfl rfl (by decide) lk_Pr_23 (fb_iload dd_Pr_addInstruction_177 rfl (fb_ild (x := (s16.2 15 ((σ.1 41) - 1)) + 1) dd_Pr_addInstruction_179 rfl q2 rfl (fb_iconst dd_Pr_addInstruction_180 (fb_isub dd_Pr_addInstruction_181 ?_))))
                  exact fb_iret dd_Pr_addInstruction_182 rfl h
                · replace h := h.2 hc
                  refine fb_iconst dd_Pr_addInstruction_98 ?_
                  exact fb_iret dd_Pr_addInstruction_99 rfl h
          · replace h := h.2 hc
            refine fb_iconst dd_Pr_addInstruction_46 ?_
            exact fb_iret dd_Pr_addInstruction_47 rfl h
      · replace h := h.2 hc
        refine fb_iconst dd_Pr_addInstruction_34 ?_
        exact fb_iret dd_Pr_addInstruction_35 rfl h

theorem Pr_suits_b0 {E : fb_E} {σ : fb_S} {Q : Int → fb_S → Prop} (v1 v2 : Int) (h : fb_V E fb_Pr_sizeOf 0 [.inr 1, .inl ((σ.1 41) - 1), .inl v2, .inr 999] [] σ (fun r1 s2 => (-2147483648 ≤ v1 ∧ v1 < 2147483648) ∧ ((v1 = 1 → fb_V E fb_Pr_isScalar 0 [.inl r1] [] s2 (fun r4 s5 => (r4 = 0 ∨ r4 = 1) ∧ (Q r4 s5))) ∧ (v1 = 2 → (-2147483648 ≤ r1 ∧ r1 < 2147483648) ∧ ((¬ r1 = 1 → Q 0 s2) ∧ (r1 = 1 → Q 1 s2))) ∧ (v1 = 3 → (-2147483648 ≤ r1 ∧ r1 < 2147483648) ∧ ((r1 ≤ 2 → Q 0 s2) ∧ (¬ r1 ≤ 2 → Q 1 s2))) ∧ (v1 = 4 → (-2147483648 ≤ v2 ∧ v2 < 2147483648) ∧ ((v2 < 0 → Q 0 s2) ∧ (¬ v2 < 0 → (65535 < v2 → Q 0 s2) ∧ (¬ 65535 < v2 → Q 1 s2)))) ∧ ((¬ v1 = 1 ∧ ¬ v1 = 2 ∧ ¬ v1 = 3 ∧ ¬ v1 = 4) → Q 1 s2)))) : fb_V E fb_Pr_suits 0 [.inr 1, .inl v1, .inl v2, .inr 999] [] σ Q := by
  refine fb_aload_n dd_Pr_suits_0 rfl (by decide) (fb_aload_n dd_Pr_suits_1 rfl (by decide) (fb_getI (x := σ.1 41) 1 9 dd_Pr_suits_2 rfl rfl rfl (by decide) lk_Pr_41 rfl (fb_iconst dd_Pr_suits_5 (fb_isub dd_Pr_suits_6 (fb_iload_n dd_Pr_suits_7 rfl ?_)))))
  refine fb_callVi (z := fb_Pr_sizeOf) (k := 1) (vs := [.inl ((σ.1 41) - 1), .inl v2]) (st := []) dd_Pr_suits_8 vw_Pr_55 (by decide) ⟨_, rfl⟩ rfl rfl (np := 2) (by decide +kernel) rfl rfl rfl rfl rfl (fb_mono h (fun r1 s2 h => ?_))
  refine fb_istore_n dd_Pr_suits_11 rfl rfl rfl (fb_iload_n dd_Pr_suits_12 rfl ?_)
  obtain ⟨q3, h⟩ := h
  rcases (show (v1 = 1) ∨ (v1 = 2) ∨ (v1 = 3) ∨ (v1 = 4) ∨ (¬ v1 = 1 ∧ ¬ v1 = 2 ∧ ¬ v1 = 3 ∧ ¬ v1 = 4) by omega) with hc | hc | hc | hc | hc
  · replace h := h.1 hc
    refine fb_tsIn (tgt := 44) (31) dd_Pr_suits_13 q3 (by omega) (by omega) (by rw [hc]; rfl) rfl ?_
    refine fb_iload_n dd_Pr_suits_44 rfl ?_
    refine fb_callSi (z := fb_Pr_isScalar) (vs := [.inl r1]) (st := []) dd_Pr_suits_45 sw_Pr_59 (by decide) ⟨_, rfl⟩ (np := 1) (by decide +kernel) rfl rfl rfl rfl rfl (fb_mono h (fun r4 s5 h => ?_))
    obtain ⟨q6, h⟩ := h
    exact fb_zret dd_Pr_suits_48 rfl q6 h
  · replace h := h.2.1 hc
    refine fb_tsIn (tgt := 49) (36) dd_Pr_suits_13 q3 (by omega) (by omega) (by rw [hc]; rfl) rfl ?_
    refine fb_iload_n dd_Pr_suits_49 rfl (fb_iconst dd_Pr_suits_50 ?_)
    obtain ⟨q7, h⟩ := h
    refine fb_icmp_ne (tgt := 58) dd_Pr_suits_51 rfl q7 (by decide) (fun hc => ?_) (fun hc => ?_)
    · replace h := h.1 hc
      refine fb_iconst dd_Pr_suits_58 ?_
      exact fb_zret dd_Pr_suits_59 rfl (by decide) h
    · replace h := h.2 hc
      refine fb_iconst dd_Pr_suits_54 (fb_goto (tgt := 59) dd_Pr_suits_55 rfl ?_)
      exact fb_zret dd_Pr_suits_59 rfl (by decide) h
  · replace h := h.2.2.1 hc
    refine fb_tsIn (tgt := 60) (47) dd_Pr_suits_13 q3 (by omega) (by omega) (by rw [hc]; rfl) rfl ?_
    refine fb_iload_n dd_Pr_suits_60 rfl (fb_iconst dd_Pr_suits_61 ?_)
    obtain ⟨q8, h⟩ := h
    refine fb_icmp_le (tgt := 69) dd_Pr_suits_62 rfl q8 (by decide) (fun hc => ?_) (fun hc => ?_)
    · replace h := h.1 hc
      refine fb_iconst dd_Pr_suits_69 ?_
      exact fb_zret dd_Pr_suits_70 rfl (by decide) h
    · replace h := h.2 hc
      refine fb_iconst dd_Pr_suits_65 (fb_goto (tgt := 70) dd_Pr_suits_66 rfl ?_)
      exact fb_zret dd_Pr_suits_70 rfl (by decide) h
  · replace h := h.2.2.2.1 hc
    refine fb_tsIn (tgt := 71) (58) dd_Pr_suits_13 q3 (by omega) (by omega) (by rw [hc]; rfl) rfl ?_
    refine fb_iload_n dd_Pr_suits_71 rfl ?_
    obtain ⟨q9, h⟩ := h
    refine fb_if_lt (tgt := 85) dd_Pr_suits_72 rfl q9 (fun hc => ?_) (fun hc => ?_)
    · replace h := h.1 hc
      refine fb_iconst dd_Pr_suits_85 ?_
      exact fb_zret dd_Pr_suits_86 rfl (by decide) h
    · replace h := h.2 hc
      refine fb_iload_n dd_Pr_suits_75 rfl (fb_ldc (n := 65535) dd_Pr_suits_76 cn_Pr_63 ?_)
      refine fb_icmp_gt (tgt := 85) dd_Pr_suits_78 rfl q9 (by decide) (fun hc => ?_) (fun hc => ?_)
      · replace h := h.1 hc
        refine fb_iconst dd_Pr_suits_85 ?_
        exact fb_zret dd_Pr_suits_86 rfl (by decide) h
      · replace h := h.2 hc
        refine fb_iconst dd_Pr_suits_81 (fb_goto (tgt := 86) dd_Pr_suits_82 rfl ?_)
        exact fb_zret dd_Pr_suits_86 rfl (by decide) h
  · replace h := h.2.2.2.2 hc
    refine fb_tsOut (tgt := 87) dd_Pr_suits_13 q3 (by omega) rfl ?_
    refine fb_iconst dd_Pr_suits_87 ?_
    exact fb_zret dd_Pr_suits_88 rfl (by decide) h

theorem Pr_isScalar_b0 {E : fb_E} {σ : fb_S} {Q : Int → fb_S → Prop} (v0 : Int) (h : (-2147483648 ≤ v0 ∧ v0 < 2147483648) ∧ ((v0 = 1 → Q 1 σ) ∧ (¬ v0 = 1 → (¬ v0 = 2 → Q 0 σ) ∧ (v0 = 2 → Q 1 σ)))) : fb_V E fb_Pr_isScalar 0 [.inl v0] [] σ Q := by
  refine fb_iload_n dd_Pr_isScalar_0 rfl (fb_iconst dd_Pr_isScalar_1 ?_)
  obtain ⟨q1, h⟩ := h
  refine fb_icmp_eq (tgt := 10) dd_Pr_isScalar_2 rfl q1 (by decide) (fun hc => ?_) (fun hc => ?_)
  · replace h := h.1 hc
    refine fb_iconst dd_Pr_isScalar_10 (fb_goto (tgt := 15) dd_Pr_isScalar_11 rfl ?_)
    exact fb_zret dd_Pr_isScalar_15 rfl (by decide) h
  · replace h := h.2 hc
    refine fb_iload_n dd_Pr_isScalar_5 rfl (fb_iconst dd_Pr_isScalar_6 ?_)
    refine fb_icmp_ne (tgt := 14) dd_Pr_isScalar_7 rfl q1 (by decide) (fun hc => ?_) (fun hc => ?_)
    · replace h := h.1 hc
      refine fb_iconst dd_Pr_isScalar_14 ?_
      exact fb_zret dd_Pr_isScalar_15 rfl (by decide) h
    · replace h := h.2 hc
      refine fb_iconst dd_Pr_isScalar_10 (fb_goto (tgt := 15) dd_Pr_isScalar_11 rfl ?_)
      exact fb_zret dd_Pr_isScalar_15 rfl (by decide) h

theorem Pr_hasFunction_b0 {E : fb_E} {σ : fb_S} {Q : Int → fb_S → Prop} (v1 : Int) (h : (-2147483648 ≤ v1 ∧ v1 < 2147483648) ∧ ((v1 < 0 → Q 0 σ) ∧ (¬ v1 < 0 → (-2147483648 ≤ (σ.1 41) ∧ (σ.1 41) < 2147483648) ∧ (((σ.1 41) ≤ v1 → Q 0 σ) ∧ (¬ (σ.1 41) ≤ v1 → Q 1 σ))))) : fb_V E fb_Pr_hasFunction 0 [.inr 1, .inl v1] [] σ Q := by
  refine fb_iload_n dd_Pr_hasFunction_0 rfl ?_
  obtain ⟨q1, h⟩ := h
  refine fb_if_lt (tgt := 16) dd_Pr_hasFunction_1 rfl q1 (fun hc => ?_) (fun hc => ?_)
  · replace h := h.1 hc
    refine fb_iconst dd_Pr_hasFunction_16 ?_
    exact fb_zret dd_Pr_hasFunction_17 rfl (by decide) h
  · replace h := h.2 hc
    refine fb_iload_n dd_Pr_hasFunction_4 rfl (fb_aload_n dd_Pr_hasFunction_5 rfl (by decide) (fb_getI (x := σ.1 41) 1 9 dd_Pr_hasFunction_6 rfl rfl rfl (by decide) lk_Pr_41 rfl ?_))
    obtain ⟨q2, h⟩ := h
    refine fb_icmp_ge (tgt := 16) dd_Pr_hasFunction_9 rfl q1 q2 (fun hc => ?_) (fun hc => ?_)
    · replace h := h.1 hc
      refine fb_iconst dd_Pr_hasFunction_16 ?_
      exact fb_zret dd_Pr_hasFunction_17 rfl (by decide) h
    · replace h := h.2 hc
      refine fb_iconst dd_Pr_hasFunction_12 (fb_goto (tgt := 17) dd_Pr_hasFunction_13 rfl ?_)
      exact fb_zret dd_Pr_hasFunction_17 rfl (by decide) h

theorem Pr_hasInstruction_b0 {E : fb_E} {σ : fb_S} {Q : Int → fb_S → Prop} (v1 v2 : Int) (h : fb_V E fb_Pr_hasFunction 0 [.inr 1, .inl v1] [] σ (fun r1 s2 => (-2147483648 ≤ r1 ∧ r1 < 2147483648) ∧ ((r1 = 0 → Q 0 s2) ∧ (¬ r1 = 0 → (-2147483648 ≤ v2 ∧ v2 < 2147483648) ∧ ((v2 < 0 → Q 0 s2) ∧ (¬ v2 < 0 → (0 ≤ v1 ∧ v1 < 6) ∧ ((-2147483648 ≤ (s2.2 15 v1) ∧ (s2.2 15 v1) < 2147483648) ∧ (((s2.2 15 v1) ≤ v2 → Q 0 s2) ∧ (¬ (s2.2 15 v1) ≤ v2 → Q 1 s2))))))))) : fb_V E fb_Pr_hasInstruction 0 [.inr 1, .inl v1, .inl v2] [] σ Q := by
  refine fb_aload_n dd_Pr_hasInstruction_0 rfl (by decide) (fb_iload_n dd_Pr_hasInstruction_1 rfl ?_)
  refine fb_callVi (z := fb_Pr_hasFunction) (k := 1) (vs := [.inl v1]) (st := []) dd_Pr_hasInstruction_2 vw_Pr_64 (by decide) ⟨_, rfl⟩ rfl rfl (np := 1) (by decide +kernel) rfl rfl rfl rfl rfl (fb_mono h (fun r1 s2 h => ?_))
  obtain ⟨q3, h⟩ := h
  refine fb_if_eq (tgt := 26) dd_Pr_hasInstruction_5 rfl q3 (fun hc => ?_) (fun hc => ?_)
  · replace h := h.1 hc
    refine fb_iconst dd_Pr_hasInstruction_26 ?_
    exact fb_zret dd_Pr_hasInstruction_27 rfl (by decide) h
  · replace h := h.2 hc
    refine fb_iload_n dd_Pr_hasInstruction_8 rfl ?_
    obtain ⟨q4, h⟩ := h
    refine fb_if_lt (tgt := 26) dd_Pr_hasInstruction_9 rfl q4 (fun hc => ?_) (fun hc => ?_)
    · replace h := h.1 hc
      refine fb_iconst dd_Pr_hasInstruction_26 ?_
      exact fb_zret dd_Pr_hasInstruction_27 rfl (by decide) h
    · replace h := h.2 hc
      refine fb_iload_n dd_Pr_hasInstruction_12 rfl (fb_aload_n dd_Pr_hasInstruction_13 rfl (by decide) (fb_getR 1 3 dd_Pr_hasInstruction_14 rfl rfl rfl (by decide) lk_Pr_23 (fb_iload_n dd_Pr_hasInstruction_17 rfl ?_)))
      obtain ⟨q5, h⟩ := h
      refine fb_ild (x := s2.2 15 v1) dd_Pr_hasInstruction_18 rfl q5 rfl ?_
      obtain ⟨q6, h⟩ := h
      refine fb_icmp_ge (tgt := 26) dd_Pr_hasInstruction_19 rfl q4 q6 (fun hc => ?_) (fun hc => ?_)
      · replace h := h.1 hc
        refine fb_iconst dd_Pr_hasInstruction_26 ?_
        exact fb_zret dd_Pr_hasInstruction_27 rfl (by decide) h
      · replace h := h.2 hc
        refine fb_iconst dd_Pr_hasInstruction_22 (fb_goto (tgt := 27) dd_Pr_hasInstruction_23 rfl ?_)
        exact fb_zret dd_Pr_hasInstruction_27 rfl (by decide) h

theorem Pr_sizeOf_b0 {E : fb_E} {σ : fb_S} {Q : Int → fb_S → Prop} (v1 v2 : Int) (h : (-2147483648 ≤ v1 ∧ v1 < 2147483648) ∧ ((v1 < 0 → Q 0 σ) ∧ (¬ v1 < 0 → (-2147483648 ≤ (σ.1 41) ∧ (σ.1 41) < 2147483648) ∧ (((σ.1 41) ≤ v1 → Q 0 σ) ∧ (¬ (σ.1 41) ≤ v1 → (-2147483648 ≤ v2 ∧ v2 < 2147483648) ∧ ((v2 < 0 → Q 0 σ) ∧ (¬ v2 < 0 → (0 ≤ v1 ∧ v1 < 6) ∧ ((-2147483648 ≤ (σ.2 13 v1) ∧ (σ.2 13 v1) < 2147483648) ∧ (((σ.2 13 v1) ≤ v2 → Q 0 σ) ∧ (¬ (σ.2 13 v1) ≤ v2 → (0 ≤ v2 ∧ v2 < 6) ∧ (Q (σ.2 (7 + (v1).toNat) v2) σ))))))))))) : fb_V E fb_Pr_sizeOf 0 [.inr 1, .inl v1, .inl v2, .inr 999] [] σ Q := by
  refine fb_iload_n dd_Pr_sizeOf_0 rfl ?_
  obtain ⟨q1, h⟩ := h
  refine fb_if_lt (tgt := 30) dd_Pr_sizeOf_1 rfl q1 (fun hc => ?_) (fun hc => ?_)
  · replace h := h.1 hc
    refine fb_iconst dd_Pr_sizeOf_30 (fb_istore_n dd_Pr_sizeOf_31 rfl rfl rfl (fb_iload_n dd_Pr_sizeOf_32 rfl ?_))
    refine fb_if_eq (tgt := 47) dd_Pr_sizeOf_33 rfl (by decide) (fun _ => ?_) (fun hz => absurd hz (by decide))
    refine fb_iconst dd_Pr_sizeOf_47 ?_
    exact fb_iret dd_Pr_sizeOf_48 rfl h
  · replace h := h.2 hc
    refine fb_iload_n dd_Pr_sizeOf_4 rfl (fb_aload_n dd_Pr_sizeOf_5 rfl (by decide) (fb_getI (x := σ.1 41) 1 9 dd_Pr_sizeOf_6 rfl rfl rfl (by decide) lk_Pr_41 rfl ?_))
    obtain ⟨q2, h⟩ := h
    refine fb_icmp_ge (tgt := 30) dd_Pr_sizeOf_9 rfl q1 q2 (fun hc => ?_) (fun hc => ?_)
    · replace h := h.1 hc
      refine fb_iconst dd_Pr_sizeOf_30 (fb_istore_n dd_Pr_sizeOf_31 rfl rfl rfl (fb_iload_n dd_Pr_sizeOf_32 rfl ?_))
      refine fb_if_eq (tgt := 47) dd_Pr_sizeOf_33 rfl (by decide) (fun _ => ?_) (fun hz => absurd hz (by decide))
      refine fb_iconst dd_Pr_sizeOf_47 ?_
      exact fb_iret dd_Pr_sizeOf_48 rfl h
    · replace h := h.2 hc
      refine fb_iload_n dd_Pr_sizeOf_12 rfl ?_
      obtain ⟨q3, h⟩ := h
      refine fb_if_lt (tgt := 30) dd_Pr_sizeOf_13 rfl q3 (fun hc => ?_) (fun hc => ?_)
      · replace h := h.1 hc
        refine fb_iconst dd_Pr_sizeOf_30 (fb_istore_n dd_Pr_sizeOf_31 rfl rfl rfl (fb_iload_n dd_Pr_sizeOf_32 rfl ?_))
        refine fb_if_eq (tgt := 47) dd_Pr_sizeOf_33 rfl (by decide) (fun _ => ?_) (fun hz => absurd hz (by decide))
        refine fb_iconst dd_Pr_sizeOf_47 ?_
        exact fb_iret dd_Pr_sizeOf_48 rfl h
      · replace h := h.2 hc
        refine fb_iload_n dd_Pr_sizeOf_16 rfl (fb_aload_n dd_Pr_sizeOf_17 rfl (by decide) (fb_getR 1 1 dd_Pr_sizeOf_18 rfl rfl rfl (by decide) lk_Pr_16 (fb_iload_n dd_Pr_sizeOf_21 rfl ?_)))
        obtain ⟨q4, h⟩ := h
        refine fb_ild (x := σ.2 13 v1) dd_Pr_sizeOf_22 rfl q4 rfl ?_
        obtain ⟨q5, h⟩ := h
        refine fb_icmp_ge (tgt := 30) dd_Pr_sizeOf_23 rfl q3 q5 (fun hc => ?_) (fun hc => ?_)
        · replace h := h.1 hc
          refine fb_iconst dd_Pr_sizeOf_30 (fb_istore_n dd_Pr_sizeOf_31 rfl rfl rfl (fb_iload_n dd_Pr_sizeOf_32 rfl ?_))
          refine fb_if_eq (tgt := 47) dd_Pr_sizeOf_33 rfl (by decide) (fun _ => ?_) (fun hz => absurd hz (by decide))
          refine fb_iconst dd_Pr_sizeOf_47 ?_
          exact fb_iret dd_Pr_sizeOf_48 rfl h
        · replace h := h.2 hc
          refine fb_iconst dd_Pr_sizeOf_26 (fb_goto (tgt := 31) dd_Pr_sizeOf_27 rfl (fb_istore_n dd_Pr_sizeOf_31 rfl rfl rfl (fb_iload_n dd_Pr_sizeOf_32 rfl ?_)))
          refine fb_if_eq (tgt := 47) dd_Pr_sizeOf_33 rfl (by decide) (fun hz => absurd hz (by decide)) (fun _ => ?_)
          refine fb_aload_n dd_Pr_sizeOf_36 rfl (by decide) (fb_getR 1 0 dd_Pr_sizeOf_37 rfl rfl rfl (by decide) lk_Pr_11 (fb_iload_n dd_Pr_sizeOf_40 rfl (fb_ald dd_Pr_sizeOf_41 rfl q4 (fb_iload_n dd_Pr_sizeOf_42 rfl ?_))))
          obtain ⟨q6, h⟩ := h
          refine fb_ild (x := σ.2 (7 + (v1).toNat) v2) dd_Pr_sizeOf_43 (fb_row7 q4) q6 rfl (fb_goto (tgt := 48) dd_Pr_sizeOf_44 rfl ?_)
          exact fb_iret dd_Pr_sizeOf_48 rfl h

theorem Pr_frameSizeOf_b0 {E : fb_E} {σ : fb_S} {Q : Int → fb_S → Prop} (v1 : Int) (h : fb_V E fb_Pr_frameSizeOf 4 [.inr 1, .inl v1, .inl 0, .inl 0] [] σ Q) : fb_V E fb_Pr_frameSizeOf 0 [.inr 1, .inl v1, .inr 999, .inr 999] [] σ Q := by
  refine fb_iconst dd_Pr_frameSizeOf_0 (fb_istore_n dd_Pr_frameSizeOf_1 rfl rfl rfl (fb_iconst dd_Pr_frameSizeOf_2 (fb_istore_n dd_Pr_frameSizeOf_3 rfl rfl rfl ?_)))
  exact h
theorem Pr_frameSizeOf_b4 {E : fb_E} {σ : fb_S} {Q : Int → fb_S → Prop} (v1 v2 v3 : Int) (h : (0 ≤ v1 ∧ v1 < 6) ∧ ((-2147483648 ≤ v3 ∧ v3 < 2147483648) ∧ ((-2147483648 ≤ (σ.2 13 v1) ∧ (σ.2 13 v1) < 2147483648) ∧ (((σ.2 13 v1) ≤ v3 → Q v2 σ) ∧ (¬ (σ.2 13 v1) ≤ v3 → (0 ≤ v3 ∧ v3 < 6) ∧ (fb_V E fb_Pr_frameSizeOf 4 [.inr 1, .inl v1, .inl (v2 + (σ.2 (7 + (v1).toNat) v3)), .inl (v3 + 1)] [] σ Q)))))) : fb_V E fb_Pr_frameSizeOf 4 [.inr 1, .inl v1, .inl v2, .inl v3] [] σ Q := by
  refine fb_iload_n dd_Pr_frameSizeOf_4 rfl (fb_aload_n dd_Pr_frameSizeOf_5 rfl (by decide) (fb_getR 1 1 dd_Pr_frameSizeOf_6 rfl rfl rfl (by decide) lk_Pr_16 (fb_iload_n dd_Pr_frameSizeOf_9 rfl ?_)))
  obtain ⟨q1, h⟩ := h
  refine fb_ild (x := σ.2 13 v1) dd_Pr_frameSizeOf_10 rfl q1 rfl ?_
  obtain ⟨q2, h⟩ := h
  obtain ⟨q3, h⟩ := h
  refine fb_icmp_ge (tgt := 31) dd_Pr_frameSizeOf_11 rfl q2 q3 (fun hc => ?_) (fun hc => ?_)
  · replace h := h.1 hc
    refine fb_iload_n dd_Pr_frameSizeOf_31 rfl ?_
    exact fb_iret dd_Pr_frameSizeOf_32 rfl h
  · replace h := h.2 hc
    refine fb_iload_n dd_Pr_frameSizeOf_14 rfl (fb_aload_n dd_Pr_frameSizeOf_15 rfl (by decide) (fb_getR 1 0 dd_Pr_frameSizeOf_16 rfl rfl rfl (by decide) lk_Pr_11 (fb_iload_n dd_Pr_frameSizeOf_19 rfl (fb_ald dd_Pr_frameSizeOf_20 rfl q1 (fb_iload_n dd_Pr_frameSizeOf_21 rfl ?_)))))
    obtain ⟨q4, h⟩ := h
    refine fb_ild (x := σ.2 (7 + (v1).toNat) v3) dd_Pr_frameSizeOf_22 (fb_row7 q1) q4 rfl (fb_iadd dd_Pr_frameSizeOf_23 (fb_istore_n dd_Pr_frameSizeOf_24 rfl rfl rfl (fb_iinc dd_Pr_frameSizeOf_25 rfl rfl rfl (fb_goto (tgt := 4) dd_Pr_frameSizeOf_28 rfl ?_))))
    exact h

theorem Pr_hasTarget_b0 {E : fb_E} {σ : fb_S} {Q : Int → fb_S → Prop} (v1 : Int) (h : (0 ≤ v1 ∧ v1 < 60) ∧ ((-2147483648 ≤ (σ.2 17 v1) ∧ (σ.2 17 v1) < 2147483648) ∧ (((σ.2 17 v1) = 10 → Q 1 σ) ∧ (¬ (σ.2 17 v1) = 10 → ((σ.2 17 v1) = 11 → Q 1 σ) ∧ (¬ (σ.2 17 v1) = 11 → (¬ (σ.2 17 v1) = 12 → Q 0 σ) ∧ ((σ.2 17 v1) = 12 → Q 1 σ)))))) : fb_V E fb_Pr_hasTarget 0 [.inr 1, .inl v1] [] σ Q := by
  refine fb_aload_n dd_Pr_hasTarget_0 rfl (by decide) (fb_getR 1 5 dd_Pr_hasTarget_1 rfl rfl rfl (by decide) lk_Pr_29 (fb_iload_n dd_Pr_hasTarget_4 rfl ?_))
  obtain ⟨q1, h⟩ := h
  refine fb_ild (x := σ.2 17 v1) dd_Pr_hasTarget_5 rfl q1 rfl (fb_bipush dd_Pr_hasTarget_6 (by decide) ?_)
  obtain ⟨q2, h⟩ := h
  refine fb_icmp_eq (tgt := 33) dd_Pr_hasTarget_8 rfl q2 (by decide) (fun hc => ?_) (fun hc => ?_)
  · replace h := h.1 hc
    refine fb_iconst dd_Pr_hasTarget_33 (fb_goto (tgt := 38) dd_Pr_hasTarget_34 rfl ?_)
    exact fb_zret dd_Pr_hasTarget_38 rfl (by decide) h
  · replace h := h.2 hc
    refine fb_aload_n dd_Pr_hasTarget_11 rfl (by decide) (fb_getR 1 5 dd_Pr_hasTarget_12 rfl rfl rfl (by decide) lk_Pr_29 (fb_iload_n dd_Pr_hasTarget_15 rfl (fb_ild (x := σ.2 17 v1) dd_Pr_hasTarget_16 rfl q1 rfl (fb_bipush dd_Pr_hasTarget_17 (by decide) ?_))))
    refine fb_icmp_eq (tgt := 33) dd_Pr_hasTarget_19 rfl q2 (by decide) (fun hc => ?_) (fun hc => ?_)
    · replace h := h.1 hc
      refine fb_iconst dd_Pr_hasTarget_33 (fb_goto (tgt := 38) dd_Pr_hasTarget_34 rfl ?_)
      exact fb_zret dd_Pr_hasTarget_38 rfl (by decide) h
    · replace h := h.2 hc
      refine fb_aload_n dd_Pr_hasTarget_22 rfl (by decide) (fb_getR 1 5 dd_Pr_hasTarget_23 rfl rfl rfl (by decide) lk_Pr_29 (fb_iload_n dd_Pr_hasTarget_26 rfl (fb_ild (x := σ.2 17 v1) dd_Pr_hasTarget_27 rfl q1 rfl (fb_bipush dd_Pr_hasTarget_28 (by decide) ?_))))
      refine fb_icmp_ne (tgt := 37) dd_Pr_hasTarget_30 rfl q2 (by decide) (fun hc => ?_) (fun hc => ?_)
      · replace h := h.1 hc
        refine fb_iconst dd_Pr_hasTarget_37 ?_
        exact fb_zret dd_Pr_hasTarget_38 rfl (by decide) h
      · replace h := h.2 hc
        refine fb_iconst dd_Pr_hasTarget_33 (fb_goto (tgt := 38) dd_Pr_hasTarget_34 rfl ?_)
        exact fb_zret dd_Pr_hasTarget_38 rfl (by decide) h

theorem Pr_targetOf_b0 {E : fb_E} {σ : fb_S} {Q : Int → fb_S → Prop} (v1 : Int) (h : (0 ≤ v1 ∧ v1 < 60) ∧ ((-2147483648 ≤ (σ.2 17 v1) ∧ (σ.2 17 v1) < 2147483648) ∧ ((¬ (σ.2 17 v1) = 10 → (¬ (σ.2 17 v1) = 11 → Q (σ.2 20 v1) σ) ∧ ((σ.2 17 v1) = 11 → Q (σ.2 19 v1) σ)) ∧ ((σ.2 17 v1) = 10 → Q (σ.2 18 v1) σ)))) : fb_V E fb_Pr_targetOf 0 [.inr 1, .inl v1] [] σ Q := by
  refine fb_aload_n dd_Pr_targetOf_0 rfl (by decide) (fb_getR 1 5 dd_Pr_targetOf_1 rfl rfl rfl (by decide) lk_Pr_29 (fb_iload_n dd_Pr_targetOf_4 rfl ?_))
  obtain ⟨q1, h⟩ := h
  refine fb_ild (x := σ.2 17 v1) dd_Pr_targetOf_5 rfl q1 rfl (fb_bipush dd_Pr_targetOf_6 (by decide) ?_)
  obtain ⟨q2, h⟩ := h
  refine fb_icmp_ne (tgt := 18) dd_Pr_targetOf_8 rfl q2 (by decide) (fun hc => ?_) (fun hc => ?_)
  · replace h := h.1 hc
    refine fb_aload_n dd_Pr_targetOf_18 rfl (by decide) (fb_getR 1 5 dd_Pr_targetOf_19 rfl rfl rfl (by decide) lk_Pr_29 (fb_iload_n dd_Pr_targetOf_22 rfl (fb_ild (x := σ.2 17 v1) dd_Pr_targetOf_23 rfl q1 rfl (fb_bipush dd_Pr_targetOf_24 (by decide) ?_))))
    refine fb_icmp_ne (tgt := 38) dd_Pr_targetOf_26 rfl q2 (by decide) (fun hc => ?_) (fun hc => ?_)
    · replace h := h.1 hc
      refine fb_aload_n dd_Pr_targetOf_38 rfl (by decide) (fb_getR 1 8 dd_Pr_targetOf_39 rfl rfl rfl (by decide) lk_Pr_38 (fb_iload_n dd_Pr_targetOf_42 rfl (fb_ild (x := σ.2 20 v1) dd_Pr_targetOf_43 rfl q1 rfl ?_)))
      exact fb_iret dd_Pr_targetOf_44 rfl h
    · replace h := h.2 hc
      refine fb_aload_n dd_Pr_targetOf_29 rfl (by decide) (fb_getR 1 7 dd_Pr_targetOf_30 rfl rfl rfl (by decide) lk_Pr_35 (fb_iload_n dd_Pr_targetOf_33 rfl (fb_ild (x := σ.2 19 v1) dd_Pr_targetOf_34 rfl q1 rfl (fb_goto (tgt := 44) dd_Pr_targetOf_35 rfl ?_))))
      exact fb_iret dd_Pr_targetOf_44 rfl h
  · replace h := h.2 hc
    refine fb_aload_n dd_Pr_targetOf_11 rfl (by decide) (fb_getR 1 6 dd_Pr_targetOf_12 rfl rfl rfl (by decide) lk_Pr_32 (fb_iload_n dd_Pr_targetOf_15 rfl (fb_ild (x := σ.2 18 v1) dd_Pr_targetOf_16 rfl q1 rfl ?_)))
    exact fb_iret dd_Pr_targetOf_17 rfl h

theorem Pr_goalOf_b0 {E : fb_E} {σ : fb_S} {Q : Int → fb_S → Prop} (v1 : Int) (h : (0 ≤ v1 ∧ v1 < 60) ∧ ((0 ≤ (σ.2 16 v1) ∧ (σ.2 16 v1) < 6) ∧ (fb_V E fb_Pr_targetOf 0 [.inr 1, .inl v1] [] σ (fun r3 s4 => Q ((σ.2 14 (σ.2 16 v1)) + r3) s4)))) : fb_V E fb_Pr_goalOf 0 [.inr 1, .inl v1] [] σ Q := by
  refine fb_aload_n dd_Pr_goalOf_0 rfl (by decide) (fb_getR 1 2 dd_Pr_goalOf_1 rfl rfl rfl (by decide) lk_Pr_20 (fb_aload_n dd_Pr_goalOf_4 rfl (by decide) (fb_getR 1 4 dd_Pr_goalOf_5 rfl rfl rfl (by decide) lk_Pr_26 (fb_iload_n dd_Pr_goalOf_8 rfl ?_))))
  obtain ⟨q1, h⟩ := h
  refine fb_ild (x := σ.2 16 v1) dd_Pr_goalOf_9 rfl q1 rfl ?_
  obtain ⟨q2, h⟩ := h
  refine fb_ild (x := σ.2 14 (σ.2 16 v1)) dd_Pr_goalOf_10 rfl q2 rfl (fb_aload_n dd_Pr_goalOf_11 rfl (by decide) (fb_iload_n dd_Pr_goalOf_12 rfl ?_))
  refine fb_callVi (z := fb_Pr_targetOf) (k := 1) (vs := [.inl v1]) (st := [.inl (σ.2 14 (σ.2 16 v1))]) dd_Pr_goalOf_13 vw_Pr_67 (by decide) ⟨_, rfl⟩ rfl rfl (np := 1) (by decide +kernel) rfl rfl rfl rfl rfl (fb_mono h (fun r3 s4 h => ?_))
  refine fb_iadd dd_Pr_goalOf_16 ?_
  exact fb_iret dd_Pr_goalOf_17 rfl h

theorem Pr_isWhole_b0 {E : fb_E} {σ : fb_S} {Q : Int → fb_S → Prop} (h : fb_V E fb_Pr_isWhole 2 [.inr 1, .inl 0, .inr 999] [] σ Q) : fb_V E fb_Pr_isWhole 0 [.inr 1, .inr 999, .inr 999] [] σ Q := by
  refine fb_iconst dd_Pr_isWhole_0 (fb_istore_n dd_Pr_isWhole_1 rfl rfl rfl ?_)
  exact h
theorem Pr_isWhole_b2 {E : fb_E} {σ : fb_S} {Q : Int → fb_S → Prop} (v1 : Int) (h : (-2147483648 ≤ v1 ∧ v1 < 2147483648) ∧ ((-2147483648 ≤ (σ.1 41) ∧ (σ.1 41) < 2147483648) ∧ (((σ.1 41) ≤ v1 → ((σ.1 41) ≤ 0 → Q 0 σ) ∧ (¬ (σ.1 41) ≤ 0 → Q 1 σ)) ∧ (¬ (σ.1 41) ≤ v1 → (0 ≤ v1 ∧ v1 < 6) ∧ ((-2147483648 ≤ (σ.2 15 v1) ∧ (σ.2 15 v1) < 2147483648) ∧ ((¬ (σ.2 15 v1) = 0 → (0 ≤ (((σ.2 14 v1) + (σ.2 15 v1)) - 1) ∧ (((σ.2 14 v1) + (σ.2 15 v1)) - 1) < 60) ∧ ((-2147483648 ≤ (σ.2 17 (((σ.2 14 v1) + (σ.2 15 v1)) - 1)) ∧ (σ.2 17 (((σ.2 14 v1) + (σ.2 15 v1)) - 1)) < 2147483648) ∧ (((σ.2 17 (((σ.2 14 v1) + (σ.2 15 v1)) - 1)) = 10 → fb_V E fb_Pr_isWhole 2 [.inr 1, .inl (v1 + 1), .inr 999] [] σ Q) ∧ (¬ (σ.2 17 (((σ.2 14 v1) + (σ.2 15 v1)) - 1)) = 10 → ((σ.2 17 (((σ.2 14 v1) + (σ.2 15 v1)) - 1)) = 14 → fb_V E fb_Pr_isWhole 2 [.inr 1, .inl (v1 + 1), .inr 999] [] σ Q) ∧ (¬ (σ.2 17 (((σ.2 14 v1) + (σ.2 15 v1)) - 1)) = 14 → Q 0 σ))))) ∧ ((σ.2 15 v1) = 0 → Q 0 σ))))))) : fb_V E fb_Pr_isWhole 2 [.inr 1, .inl v1, .inr 999] [] σ Q := by
  refine fb_iload_n dd_Pr_isWhole_2 rfl (fb_aload_n dd_Pr_isWhole_3 rfl (by decide) (fb_getI (x := σ.1 41) 1 9 dd_Pr_isWhole_4 rfl rfl rfl (by decide) lk_Pr_41 rfl ?_))
  obtain ⟨q1, h⟩ := h
  obtain ⟨q2, h⟩ := h
  refine fb_icmp_ge (tgt := 62) dd_Pr_isWhole_7 rfl q1 q2 (fun hc => ?_) (fun hc => ?_)
  · replace h := h.1 hc
    refine fb_aload_n dd_Pr_isWhole_62 rfl (by decide) (fb_getI (x := σ.1 41) 1 9 dd_Pr_isWhole_63 rfl rfl rfl (by decide) lk_Pr_41 rfl ?_)
    refine fb_if_le (tgt := 73) dd_Pr_isWhole_66 rfl q2 (fun hc => ?_) (fun hc => ?_)
    · replace h := h.1 hc
      refine fb_iconst dd_Pr_isWhole_73 ?_
      exact fb_zret dd_Pr_isWhole_74 rfl (by decide) h
    · replace h := h.2 hc
      refine fb_iconst dd_Pr_isWhole_69 (fb_goto (tgt := 74) dd_Pr_isWhole_70 rfl ?_)
      exact fb_zret dd_Pr_isWhole_74 rfl (by decide) h
  · replace h := h.2 hc
    refine fb_aload_n dd_Pr_isWhole_10 rfl (by decide) (fb_getR 1 3 dd_Pr_isWhole_11 rfl rfl rfl (by decide) lk_Pr_23 (fb_iload_n dd_Pr_isWhole_14 rfl ?_))
    obtain ⟨q3, h⟩ := h
    refine fb_ild (x := σ.2 15 v1) dd_Pr_isWhole_15 rfl q3 rfl ?_
    obtain ⟨q4, h⟩ := h
    refine fb_if_ne (tgt := 21) dd_Pr_isWhole_16 rfl q4 (fun hc => ?_) (fun hc => ?_)
    · replace h := h.1 hc
      refine fb_aload_n dd_Pr_isWhole_21 rfl (by decide) (fb_getR 1 5 dd_Pr_isWhole_22 rfl rfl rfl (by decide) lk_Pr_29 (fb_aload_n dd_Pr_isWhole_25 rfl (by decide) (fb_getR 1 2 dd_Pr_isWhole_26 rfl rfl rfl (by decide) lk_Pr_20 (fb_iload_n dd_Pr_isWhole_29 rfl (fb_ild (x := σ.2 14 v1) dd_Pr_isWhole_30 rfl q3 rfl (fb_aload_n dd_Pr_isWhole_31 rfl (by decide) (fb_getR 1 3 dd_Pr_isWhole_32 rfl rfl rfl (by decide) lk_Pr_23 ?_)))))))
      refine fb_iload_n dd_Pr_isWhole_35 rfl (fb_ild (x := σ.2 15 v1) dd_Pr_isWhole_36 rfl q3 rfl (fb_iadd dd_Pr_isWhole_37 (fb_iconst dd_Pr_isWhole_38 (fb_isub dd_Pr_isWhole_39 ?_))))
      obtain ⟨q5, h⟩ := h
      refine fb_ild (x := σ.2 17 (((σ.2 14 v1) + (σ.2 15 v1)) - 1)) dd_Pr_isWhole_40 rfl q5 rfl (fb_istore_n dd_Pr_isWhole_41 rfl rfl rfl (fb_iload_n dd_Pr_isWhole_42 rfl (fb_bipush dd_Pr_isWhole_43 (by decide) ?_)))
      obtain ⟨q6, h⟩ := h
      refine fb_icmp_eq (tgt := 56) dd_Pr_isWhole_45 rfl q6 (by decide) (fun hc => ?_) (fun hc => ?_)
      · replace h := h.1 hc
        refine fb_iinc dd_Pr_isWhole_56 rfl rfl rfl (fb_goto (tgt := 2) dd_Pr_isWhole_59 rfl ?_)
        exact fb_drop (fb_sub_k (fb_sub_k (fb_sub_d fb_sub_0))) h
      · replace h := h.2 hc
        refine fb_iload_n dd_Pr_isWhole_48 rfl (fb_bipush dd_Pr_isWhole_49 (by decide) ?_)
        refine fb_icmp_eq (tgt := 56) dd_Pr_isWhole_51 rfl q6 (by decide) (fun hc => ?_) (fun hc => ?_)
        · replace h := h.1 hc
          refine fb_iinc dd_Pr_isWhole_56 rfl rfl rfl (fb_goto (tgt := 2) dd_Pr_isWhole_59 rfl ?_)
          exact fb_drop (fb_sub_k (fb_sub_k (fb_sub_d fb_sub_0))) h
        · replace h := h.2 hc
          refine fb_iconst dd_Pr_isWhole_54 ?_
          exact fb_zret dd_Pr_isWhole_55 rfl (by decide) h
    · replace h := h.2 hc
      refine fb_iconst dd_Pr_isWhole_19 ?_
      exact fb_zret dd_Pr_isWhole_20 rfl (by decide) h

theorem Pr_hasAllTargets_b0 {E : fb_E} {σ : fb_S} {Q : Int → fb_S → Prop} (h : fb_V E fb_Pr_hasAllTargets 2 [.inr 1, .inl 0] [] σ Q) : fb_V E fb_Pr_hasAllTargets 0 [.inr 1, .inr 999] [] σ Q := by
  refine fb_iconst dd_Pr_hasAllTargets_0 (fb_istore_n dd_Pr_hasAllTargets_1 rfl rfl rfl ?_)
  exact h
theorem Pr_hasAllTargets_b2 {E : fb_E} {σ : fb_S} {Q : Int → fb_S → Prop} (v1 : Int) (h : (-2147483648 ≤ v1 ∧ v1 < 2147483648) ∧ ((-2147483648 ≤ (σ.1 42) ∧ (σ.1 42) < 2147483648) ∧ (((σ.1 42) ≤ v1 → Q 1 σ) ∧ (¬ (σ.1 42) ≤ v1 → fb_V E fb_Pr_hasTarget 0 [.inr 1, .inl v1] [] σ (fun r3 s4 => (-2147483648 ≤ r3 ∧ r3 < 2147483648) ∧ ((r3 = 0 → fb_V E fb_Pr_hasAllTargets 2 [.inr 1, .inl (v1 + 1)] [] s4 Q) ∧ (¬ r3 = 0 → (0 ≤ v1 ∧ v1 < 60) ∧ (fb_V E fb_Pr_targetOf 0 [.inr 1, .inl v1] [] s4 (fun r7 s8 => fb_V E fb_Pr_hasInstruction 0 [.inr 1, .inl (s4.2 16 v1), .inl r7] [] s8 (fun r9 s10 => (-2147483648 ≤ r9 ∧ r9 < 2147483648) ∧ ((¬ r9 = 0 → fb_V E fb_Pr_hasAllTargets 2 [.inr 1, .inl (v1 + 1)] [] s10 Q) ∧ (r9 = 0 → Q 0 s10)))))))))))) : fb_V E fb_Pr_hasAllTargets 2 [.inr 1, .inl v1] [] σ Q := by
  refine fb_iload_n dd_Pr_hasAllTargets_2 rfl (fb_aload_n dd_Pr_hasAllTargets_3 rfl (by decide) (fb_getI (x := σ.1 42) 1 10 dd_Pr_hasAllTargets_4 rfl rfl rfl (by decide) lk_Pr_45 rfl ?_))
  obtain ⟨q1, h⟩ := h
  obtain ⟨q2, h⟩ := h
  refine fb_icmp_ge (tgt := 44) dd_Pr_hasAllTargets_7 rfl q1 q2 (fun hc => ?_) (fun hc => ?_)
  · replace h := h.1 hc
    refine fb_iconst dd_Pr_hasAllTargets_44 ?_
    exact fb_zret dd_Pr_hasAllTargets_45 rfl (by decide) h
  · replace h := h.2 hc
    refine fb_aload_n dd_Pr_hasAllTargets_10 rfl (by decide) (fb_iload_n dd_Pr_hasAllTargets_11 rfl ?_)
    refine fb_callVi (z := fb_Pr_hasTarget) (k := 1) (vs := [.inl v1]) (st := []) dd_Pr_hasAllTargets_12 vw_Pr_71 (by decide) ⟨_, rfl⟩ rfl rfl (np := 1) (by decide +kernel) rfl rfl rfl rfl rfl (fb_mono h (fun r3 s4 h => ?_))
    obtain ⟨q5, h⟩ := h
    refine fb_if_eq (tgt := 38) dd_Pr_hasAllTargets_15 rfl q5 (fun hc => ?_) (fun hc => ?_)
    · replace h := h.1 hc
      refine fb_iinc dd_Pr_hasAllTargets_38 rfl rfl rfl (fb_goto (tgt := 2) dd_Pr_hasAllTargets_41 rfl ?_)
      exact h
    · replace h := h.2 hc
      refine fb_aload_n dd_Pr_hasAllTargets_18 rfl (by decide) (fb_aload_n dd_Pr_hasAllTargets_19 rfl (by decide) (fb_getR 1 4 dd_Pr_hasAllTargets_20 rfl rfl rfl (by decide) lk_Pr_26 (fb_iload_n dd_Pr_hasAllTargets_23 rfl ?_)))
      obtain ⟨q6, h⟩ := h
      refine fb_ild (x := s4.2 16 v1) dd_Pr_hasAllTargets_24 rfl q6 rfl (fb_aload_n dd_Pr_hasAllTargets_25 rfl (by decide) (fb_iload_n dd_Pr_hasAllTargets_26 rfl ?_))
      refine fb_callVi (z := fb_Pr_targetOf) (k := 1) (vs := [.inl v1]) (st := [.inl (s4.2 16 v1), .inr 1]) dd_Pr_hasAllTargets_27 vw_Pr_67 (by decide) ⟨_, rfl⟩ rfl rfl (np := 1) (by decide +kernel) rfl rfl rfl rfl rfl (fb_mono h (fun r7 s8 h => ?_))
      refine fb_callVi (z := fb_Pr_hasInstruction) (k := 1) (vs := [.inl (s4.2 16 v1), .inl r7]) (st := []) dd_Pr_hasAllTargets_30 vw_Pr_74 (by decide) ⟨_, rfl⟩ rfl rfl (np := 2) (by decide +kernel) rfl rfl rfl rfl rfl (fb_mono h (fun r9 s10 h => ?_))
      obtain ⟨q11, h⟩ := h
      refine fb_if_ne (tgt := 38) dd_Pr_hasAllTargets_33 rfl q11 (fun hc => ?_) (fun hc => ?_)
      · replace h := h.1 hc
        refine fb_iinc dd_Pr_hasAllTargets_38 rfl rfl rfl (fb_goto (tgt := 2) dd_Pr_hasAllTargets_41 rfl ?_)
        exact h
      · replace h := h.2 hc
        refine fb_iconst dd_Pr_hasAllTargets_36 ?_
        exact fb_zret dd_Pr_hasAllTargets_37 rfl (by decide) h

theorem Pr_hasAllCallees_b0 {E : fb_E} {σ : fb_S} {Q : Int → fb_S → Prop} (h : fb_V E fb_Pr_hasAllCallees 2 [.inr 1, .inl 0] [] σ Q) : fb_V E fb_Pr_hasAllCallees 0 [.inr 1, .inr 999] [] σ Q := by
  refine fb_iconst dd_Pr_hasAllCallees_0 (fb_istore_n dd_Pr_hasAllCallees_1 rfl rfl rfl ?_)
  exact h
theorem Pr_hasAllCallees_b2 {E : fb_E} {σ : fb_S} {Q : Int → fb_S → Prop} (v1 : Int) (h : (-2147483648 ≤ v1 ∧ v1 < 2147483648) ∧ ((-2147483648 ≤ (σ.1 42) ∧ (σ.1 42) < 2147483648) ∧ (((σ.1 42) ≤ v1 → Q 1 σ) ∧ (¬ (σ.1 42) ≤ v1 → (0 ≤ v1 ∧ v1 < 60) ∧ ((-2147483648 ≤ (σ.2 17 v1) ∧ (σ.2 17 v1) < 2147483648) ∧ ((¬ (σ.2 17 v1) = 13 → fb_V E fb_Pr_hasAllCallees 2 [.inr 1, .inl (v1 + 1)] [] σ Q) ∧ ((σ.2 17 v1) = 13 → fb_V E fb_Pr_hasFunction 0 [.inr 1, .inl (σ.2 18 v1)] [] σ (fun r5 s6 => (-2147483648 ≤ r5 ∧ r5 < 2147483648) ∧ ((¬ r5 = 0 → fb_V E fb_Pr_hasAllCallees 2 [.inr 1, .inl (v1 + 1)] [] s6 Q) ∧ (r5 = 0 → Q 0 s6)))))))))) : fb_V E fb_Pr_hasAllCallees 2 [.inr 1, .inl v1] [] σ Q := by
  refine fb_iload_n dd_Pr_hasAllCallees_2 rfl (fb_aload_n dd_Pr_hasAllCallees_3 rfl (by decide) (fb_getI (x := σ.1 42) 1 10 dd_Pr_hasAllCallees_4 rfl rfl rfl (by decide) lk_Pr_45 rfl ?_))
  obtain ⟨q1, h⟩ := h
  obtain ⟨q2, h⟩ := h
  refine fb_icmp_ge (tgt := 42) dd_Pr_hasAllCallees_7 rfl q1 q2 (fun hc => ?_) (fun hc => ?_)
  · replace h := h.1 hc
    refine fb_iconst dd_Pr_hasAllCallees_42 ?_
    exact fb_zret dd_Pr_hasAllCallees_43 rfl (by decide) h
  · replace h := h.2 hc
    refine fb_aload_n dd_Pr_hasAllCallees_10 rfl (by decide) (fb_getR 1 5 dd_Pr_hasAllCallees_11 rfl rfl rfl (by decide) lk_Pr_29 (fb_iload_n dd_Pr_hasAllCallees_14 rfl ?_))
    obtain ⟨q3, h⟩ := h
    refine fb_ild (x := σ.2 17 v1) dd_Pr_hasAllCallees_15 rfl q3 rfl (fb_bipush dd_Pr_hasAllCallees_16 (by decide) ?_)
    obtain ⟨q4, h⟩ := h
    refine fb_icmp_ne (tgt := 36) dd_Pr_hasAllCallees_18 rfl q4 (by decide) (fun hc => ?_) (fun hc => ?_)
    · replace h := h.1 hc
      refine fb_iinc dd_Pr_hasAllCallees_36 rfl rfl rfl (fb_goto (tgt := 2) dd_Pr_hasAllCallees_39 rfl ?_)
      exact h
    · replace h := h.2 hc
      refine fb_aload_n dd_Pr_hasAllCallees_21 rfl (by decide) (fb_aload_n dd_Pr_hasAllCallees_22 rfl (by decide) (fb_getR 1 6 dd_Pr_hasAllCallees_23 rfl rfl rfl (by decide) lk_Pr_32 (fb_iload_n dd_Pr_hasAllCallees_26 rfl (fb_ild (x := σ.2 18 v1) dd_Pr_hasAllCallees_27 rfl q3 rfl ?_))))
      refine fb_callVi (z := fb_Pr_hasFunction) (k := 1) (vs := [.inl (σ.2 18 v1)]) (st := []) dd_Pr_hasAllCallees_28 vw_Pr_64 (by decide) ⟨_, rfl⟩ rfl rfl (np := 1) (by decide +kernel) rfl rfl rfl rfl rfl (fb_mono h (fun r5 s6 h => ?_))
      obtain ⟨q7, h⟩ := h
      refine fb_if_ne (tgt := 36) dd_Pr_hasAllCallees_31 rfl q7 (fun hc => ?_) (fun hc => ?_)
      · replace h := h.1 hc
        refine fb_iinc dd_Pr_hasAllCallees_36 rfl rfl rfl (fb_goto (tgt := 2) dd_Pr_hasAllCallees_39 rfl ?_)
        exact h
      · replace h := h.2 hc
        refine fb_iconst dd_Pr_hasAllCallees_34 ?_
        exact fb_zret dd_Pr_hasAllCallees_35 rfl (by decide) h
end
