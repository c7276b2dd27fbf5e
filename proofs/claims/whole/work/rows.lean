section
-- ===== PART A: goes FIRST, ahead of the names: the tables' words, and 'selects' of the private methods out of them =====
/-- a private method of a class that the tables say can be made, by its rows of tables_1 -/
def lw_okq (q : MethodName × Nat) : Prop := (q.1.cls ≠ "java/lang/invoke/MethodHandle" ∧ q.1.cls ≠ "java/lang/invoke/VarHandle") ∧ Cond.instantiable q.1.cls q.2 ∈ tables_1 ∧ Cond.privateMethod q.1 ∈ tables_1 ∧ Cond.instanceMethod q.1 ∈ tables_1
theorem lw_p0 : lw_okq (⟨"PropagationDesk", "hasMethod", "(I)Z"⟩, 8) := ⟨⟨by decide +kernel, by decide +kernel⟩, List.mem_of_getElem? (i := 12) (by decide +kernel), List.mem_of_getElem? (i := 232) (by decide +kernel), List.mem_of_getElem? (i := 233) (by decide +kernel)⟩
theorem lw_p1 : lw_okq (⟨"PropagationDesk", "fits", "(IIII)Z"⟩, 8) := ⟨⟨by decide +kernel, by decide +kernel⟩, List.mem_of_getElem? (i := 12) (by decide +kernel), List.mem_of_getElem? (i := 244) (by decide +kernel), List.mem_of_getElem? (i := 245) (by decide +kernel)⟩
theorem lw_p2 : lw_okq (⟨"PropagationDesk", "call", "(ILPropagationDesk$Transaction;I)I"⟩, 8) := ⟨⟨by decide +kernel, by decide +kernel⟩, List.mem_of_getElem? (i := 12) (by decide +kernel), List.mem_of_getElem? (i := 263) (by decide +kernel), List.mem_of_getElem? (i := 264) (by decide +kernel)⟩
theorem lw_p3 : lw_okq (⟨"PropagationDesk", "enter", "(LPropagationDesk$Frame;ILPropagationDesk$Transaction;)I"⟩, 8) := ⟨⟨by decide +kernel, by decide +kernel⟩, List.mem_of_getElem? (i := 12) (by decide +kernel), List.mem_of_getElem? (i := 267) (by decide +kernel), List.mem_of_getElem? (i := 268) (by decide +kernel)⟩
theorem lw_p4 : lw_okq (⟨"PropagationDesk", "enterAlone", "(LPropagationDesk$Frame;I)I"⟩, 8) := ⟨⟨by decide +kernel, by decide +kernel⟩, List.mem_of_getElem? (i := 12) (by decide +kernel), List.mem_of_getElem? (i := 275) (by decide +kernel), List.mem_of_getElem? (i := 276) (by decide +kernel)⟩
theorem lw_p5 : lw_okq (⟨"PropagationDesk", "begin", "(LPropagationDesk$Frame;)V"⟩, 8) := ⟨⟨by decide +kernel, by decide +kernel⟩, List.mem_of_getElem? (i := 12) (by decide +kernel), List.mem_of_getElem? (i := 279) (by decide +kernel), List.mem_of_getElem? (i := 280) (by decide +kernel)⟩
theorem lw_p6 : lw_okq (⟨"PropagationDesk", "enterWithin", "(LPropagationDesk$Frame;ILPropagationDesk$Transaction;)I"⟩, 8) := ⟨⟨by decide +kernel, by decide +kernel⟩, List.mem_of_getElem? (i := 12) (by decide +kernel), List.mem_of_getElem? (i := 287) (by decide +kernel), List.mem_of_getElem? (i := 288) (by decide +kernel)⟩
theorem lw_p7 : lw_okq (⟨"PropagationDesk", "doStep", "(IIII)I"⟩, 8) := ⟨⟨by decide +kernel, by decide +kernel⟩, List.mem_of_getElem? (i := 12) (by decide +kernel), List.mem_of_getElem? (i := 295) (by decide +kernel), List.mem_of_getElem? (i := 296) (by decide +kernel)⟩
theorem lw_p8 : lw_okq (⟨"PropagationDesk", "get", "(II)I"⟩, 8) := ⟨⟨by decide +kernel, by decide +kernel⟩, List.mem_of_getElem? (i := 12) (by decide +kernel), List.mem_of_getElem? (i := 299) (by decide +kernel), List.mem_of_getElem? (i := 300) (by decide +kernel)⟩
theorem lw_p9 : lw_okq (⟨"PropagationDesk", "locked", "(IZI)Z"⟩, 8) := ⟨⟨by decide +kernel, by decide +kernel⟩, List.mem_of_getElem? (i := 12) (by decide +kernel), List.mem_of_getElem? (i := 303) (by decide +kernel), List.mem_of_getElem? (i := 304) (by decide +kernel)⟩
theorem lw_p10 : lw_okq (⟨"PropagationDesk", "seen", "(ILPropagationDesk$Transaction;)I"⟩, 8) := ⟨⟨by decide +kernel, by decide +kernel⟩, List.mem_of_getElem? (i := 12) (by decide +kernel), List.mem_of_getElem? (i := 307) (by decide +kernel), List.mem_of_getElem? (i := 308) (by decide +kernel)⟩
theorem lw_p11 : lw_okq (⟨"PropagationDesk", "put", "(III)I"⟩, 8) := ⟨⟨by decide +kernel, by decide +kernel⟩, List.mem_of_getElem? (i := 12) (by decide +kernel), List.mem_of_getElem? (i := 319) (by decide +kernel), List.mem_of_getElem? (i := 320) (by decide +kernel)⟩
theorem lw_p12 : lw_okq (⟨"PropagationDesk", "write", "(IILPropagationDesk$Transaction;)V"⟩, 8) := ⟨⟨by decide +kernel, by decide +kernel⟩, List.mem_of_getElem? (i := 12) (by decide +kernel), List.mem_of_getElem? (i := 323) (by decide +kernel), List.mem_of_getElem? (i := 324) (by decide +kernel)⟩
theorem lw_p13 : lw_okq (⟨"PropagationDesk", "add", "(III)I"⟩, 8) := ⟨⟨by decide +kernel, by decide +kernel⟩, List.mem_of_getElem? (i := 12) (by decide +kernel), List.mem_of_getElem? (i := 331) (by decide +kernel), List.mem_of_getElem? (i := 332) (by decide +kernel)⟩
theorem lw_p14 : lw_okq (⟨"PropagationDesk", "callAndCatch", "(III)I"⟩, 8) := ⟨⟨by decide +kernel, by decide +kernel⟩, List.mem_of_getElem? (i := 12) (by decide +kernel), List.mem_of_getElem? (i := 335) (by decide +kernel), List.mem_of_getElem? (i := 336) (by decide +kernel)⟩
theorem lw_p15 : lw_okq (⟨"PropagationDesk", "end", "(LPropagationDesk$Frame;LPropagationDesk$Plan;I)I"⟩, 8) := ⟨⟨by decide +kernel, by decide +kernel⟩, List.mem_of_getElem? (i := 12) (by decide +kernel), List.mem_of_getElem? (i := 352) (by decide +kernel), List.mem_of_getElem? (i := 353) (by decide +kernel)⟩
def lw_privs_1 : List (MethodName × Nat) := [(⟨"PropagationDesk", "hasMethod", "(I)Z"⟩, 8), (⟨"PropagationDesk", "fits", "(IIII)Z"⟩, 8), (⟨"PropagationDesk", "call", "(ILPropagationDesk$Transaction;I)I"⟩, 8), (⟨"PropagationDesk", "enter", "(LPropagationDesk$Frame;ILPropagationDesk$Transaction;)I"⟩, 8), (⟨"PropagationDesk", "enterAlone", "(LPropagationDesk$Frame;I)I"⟩, 8), (⟨"PropagationDesk", "begin", "(LPropagationDesk$Frame;)V"⟩, 8), (⟨"PropagationDesk", "enterWithin", "(LPropagationDesk$Frame;ILPropagationDesk$Transaction;)I"⟩, 8), (⟨"PropagationDesk", "doStep", "(IIII)I"⟩, 8), (⟨"PropagationDesk", "get", "(II)I"⟩, 8), (⟨"PropagationDesk", "locked", "(IZI)Z"⟩, 8), (⟨"PropagationDesk", "seen", "(ILPropagationDesk$Transaction;)I"⟩, 8), (⟨"PropagationDesk", "put", "(III)I"⟩, 8), (⟨"PropagationDesk", "write", "(IILPropagationDesk$Transaction;)V"⟩, 8), (⟨"PropagationDesk", "add", "(III)I"⟩, 8), (⟨"PropagationDesk", "callAndCatch", "(III)I"⟩, 8), (⟨"PropagationDesk", "end", "(LPropagationDesk$Frame;LPropagationDesk$Plan;I)I"⟩, 8)]
theorem lw_r1 : ∀ q ∈ lw_privs_1, lw_okq q := List.forall_mem_cons.mpr ⟨lw_p0, List.forall_mem_cons.mpr ⟨lw_p1, List.forall_mem_cons.mpr ⟨lw_p2, List.forall_mem_cons.mpr ⟨lw_p3, List.forall_mem_cons.mpr ⟨lw_p4, List.forall_mem_cons.mpr ⟨lw_p5, List.forall_mem_cons.mpr ⟨lw_p6, List.forall_mem_cons.mpr ⟨lw_p7, List.forall_mem_cons.mpr ⟨lw_p8, List.forall_mem_cons.mpr ⟨lw_p9, List.forall_mem_cons.mpr ⟨lw_p10, List.forall_mem_cons.mpr ⟨lw_p11, List.forall_mem_cons.mpr ⟨lw_p12, List.forall_mem_cons.mpr ⟨lw_p13, List.forall_mem_cons.mpr ⟨lw_p14, List.forall_mem_cons.mpr ⟨lw_p15, fun _ h => absurd h List.not_mem_nil⟩⟩⟩⟩⟩⟩⟩⟩⟩⟩⟩⟩⟩⟩⟩⟩
theorem lw_p16 : lw_okq (⟨"PropagationDesk", "endMarked", "(LPropagationDesk$Frame;LPropagationDesk$Transaction;ZI)I"⟩, 8) := ⟨⟨by decide +kernel, by decide +kernel⟩, List.mem_of_getElem? (i := 12) (by decide +kernel), List.mem_of_getElem? (i := 362) (by decide +kernel), List.mem_of_getElem? (i := 363) (by decide +kernel)⟩
theorem lw_p17 : lw_okq (⟨"PropagationDesk", "endBegun", "(LPropagationDesk$Transaction;ZI)I"⟩, 8) := ⟨⟨by decide +kernel, by decide +kernel⟩, List.mem_of_getElem? (i := 12) (by decide +kernel), List.mem_of_getElem? (i := 370) (by decide +kernel), List.mem_of_getElem? (i := 371) (by decide +kernel)⟩
theorem lw_p18 : lw_okq (⟨"PropagationDesk", "refusalToCommit", "(LPropagationDesk$Transaction;)I"⟩, 8) := ⟨⟨by decide +kernel, by decide +kernel⟩, List.mem_of_getElem? (i := 12) (by decide +kernel), List.mem_of_getElem? (i := 374) (by decide +kernel), List.mem_of_getElem? (i := 375) (by decide +kernel)⟩
theorem lw_p19 : lw_okq (⟨"PropagationDesk", "commit", "(LPropagationDesk$Transaction;)V"⟩, 8) := ⟨⟨by decide +kernel, by decide +kernel⟩, List.mem_of_getElem? (i := 12) (by decide +kernel), List.mem_of_getElem? (i := 378) (by decide +kernel), List.mem_of_getElem? (i := 379) (by decide +kernel)⟩
theorem lw_p20 : lw_okq (⟨"PropagationDesk", "tellHooks", "(LPropagationDesk$Transaction;I)V"⟩, 8) := ⟨⟨by decide +kernel, by decide +kernel⟩, List.mem_of_getElem? (i := 12) (by decide +kernel), List.mem_of_getElem? (i := 382) (by decide +kernel), List.mem_of_getElem? (i := 383) (by decide +kernel)⟩
theorem lw_p21 : lw_okq (⟨"PropagationDesk", "rollBack", "(LPropagationDesk$Transaction;)V"⟩, 8) := ⟨⟨by decide +kernel, by decide +kernel⟩, List.mem_of_getElem? (i := 12) (by decide +kernel), List.mem_of_getElem? (i := 386) (by decide +kernel), List.mem_of_getElem? (i := 387) (by decide +kernel)⟩
theorem lw_p22 : lw_okq (⟨"PropagationDeskModel", "isClass", "(I)Z"⟩, 37) := ⟨⟨by decide +kernel, by decide +kernel⟩, List.mem_of_getElem? (i := 434) (by decide +kernel), List.mem_of_getElem? (i := 556) (by decide +kernel), List.mem_of_getElem? (i := 557) (by decide +kernel)⟩
theorem lw_p23 : lw_okq (⟨"PropagationDeskModel", "isMethod", "(I)Z"⟩, 37) := ⟨⟨by decide +kernel, by decide +kernel⟩, List.mem_of_getElem? (i := 434) (by decide +kernel), List.mem_of_getElem? (i := 568) (by decide +kernel), List.mem_of_getElem? (i := 569) (by decide +kernel)⟩
theorem lw_p24 : lw_okq (⟨"PropagationDeskModel", "asSaid", "(IIII)Z"⟩, 37) := ⟨⟨by decide +kernel, by decide +kernel⟩, List.mem_of_getElem? (i := 434) (by decide +kernel), List.mem_of_getElem? (i := 576) (by decide +kernel), List.mem_of_getElem? (i := 577) (by decide +kernel)⟩
theorem lw_p25 : lw_okq (⟨"PropagationDeskModel", "distance", "(II)I"⟩, 37) := ⟨⟨by decide +kernel, by decide +kernel⟩, List.mem_of_getElem? (i := 434) (by decide +kernel), List.mem_of_getElem? (i := 584) (by decide +kernel), List.mem_of_getElem? (i := 585) (by decide +kernel)⟩
theorem lw_p26 : lw_okq (⟨"PropagationDeskModel", "goesBack", "(II)Z"⟩, 37) := ⟨⟨by decide +kernel, by decide +kernel⟩, List.mem_of_getElem? (i := 434) (by decide +kernel), List.mem_of_getElem? (i := 592) (by decide +kernel), List.mem_of_getElem? (i := 593) (by decide +kernel)⟩
theorem lw_p27 : lw_okq (⟨"PropagationDeskModel", "enter", "(I)I"⟩, 37) := ⟨⟨by decide +kernel, by decide +kernel⟩, List.mem_of_getElem? (i := 434) (by decide +kernel), List.mem_of_getElem? (i := 600) (by decide +kernel), List.mem_of_getElem? (i := 601) (by decide +kernel)⟩
theorem lw_p28 : lw_okq (⟨"PropagationDeskModel", "begin", "(I)V"⟩, 37) := ⟨⟨by decide +kernel, by decide +kernel⟩, List.mem_of_getElem? (i := 434) (by decide +kernel), List.mem_of_getElem? (i := 604) (by decide +kernel), List.mem_of_getElem? (i := 605) (by decide +kernel)⟩
theorem lw_p29 : lw_okq (⟨"PropagationDeskModel", "mark", "(I)V"⟩, 37) := ⟨⟨by decide +kernel, by decide +kernel⟩, List.mem_of_getElem? (i := 434) (by decide +kernel), List.mem_of_getElem? (i := 608) (by decide +kernel), List.mem_of_getElem? (i := 609) (by decide +kernel)⟩
theorem lw_p30 : lw_okq (⟨"PropagationDeskModel", "doStep", "()V"⟩, 37) := ⟨⟨by decide +kernel, by decide +kernel⟩, List.mem_of_getElem? (i := 434) (by decide +kernel), List.mem_of_getElem? (i := 612) (by decide +kernel), List.mem_of_getElem? (i := 613) (by decide +kernel)⟩
theorem lw_p31 : lw_okq (⟨"PropagationDeskModel", "arrive", "(I)V"⟩, 37) := ⟨⟨by decide +kernel, by decide +kernel⟩, List.mem_of_getElem? (i := 434) (by decide +kernel), List.mem_of_getElem? (i := 616) (by decide +kernel), List.mem_of_getElem? (i := 617) (by decide +kernel)⟩
def lw_privs_2 : List (MethodName × Nat) := [(⟨"PropagationDesk", "endMarked", "(LPropagationDesk$Frame;LPropagationDesk$Transaction;ZI)I"⟩, 8), (⟨"PropagationDesk", "endBegun", "(LPropagationDesk$Transaction;ZI)I"⟩, 8), (⟨"PropagationDesk", "refusalToCommit", "(LPropagationDesk$Transaction;)I"⟩, 8), (⟨"PropagationDesk", "commit", "(LPropagationDesk$Transaction;)V"⟩, 8), (⟨"PropagationDesk", "tellHooks", "(LPropagationDesk$Transaction;I)V"⟩, 8), (⟨"PropagationDesk", "rollBack", "(LPropagationDesk$Transaction;)V"⟩, 8), (⟨"PropagationDeskModel", "isClass", "(I)Z"⟩, 37), (⟨"PropagationDeskModel", "isMethod", "(I)Z"⟩, 37), (⟨"PropagationDeskModel", "asSaid", "(IIII)Z"⟩, 37), (⟨"PropagationDeskModel", "distance", "(II)I"⟩, 37), (⟨"PropagationDeskModel", "goesBack", "(II)Z"⟩, 37), (⟨"PropagationDeskModel", "enter", "(I)I"⟩, 37), (⟨"PropagationDeskModel", "begin", "(I)V"⟩, 37), (⟨"PropagationDeskModel", "mark", "(I)V"⟩, 37), (⟨"PropagationDeskModel", "doStep", "()V"⟩, 37), (⟨"PropagationDeskModel", "arrive", "(I)V"⟩, 37)]
theorem lw_r2 : ∀ q ∈ lw_privs_2, lw_okq q := List.forall_mem_cons.mpr ⟨lw_p16, List.forall_mem_cons.mpr ⟨lw_p17, List.forall_mem_cons.mpr ⟨lw_p18, List.forall_mem_cons.mpr ⟨lw_p19, List.forall_mem_cons.mpr ⟨lw_p20, List.forall_mem_cons.mpr ⟨lw_p21, List.forall_mem_cons.mpr ⟨lw_p22, List.forall_mem_cons.mpr ⟨lw_p23, List.forall_mem_cons.mpr ⟨lw_p24, List.forall_mem_cons.mpr ⟨lw_p25, List.forall_mem_cons.mpr ⟨lw_p26, List.forall_mem_cons.mpr ⟨lw_p27, List.forall_mem_cons.mpr ⟨lw_p28, List.forall_mem_cons.mpr ⟨lw_p29, List.forall_mem_cons.mpr ⟨lw_p30, List.forall_mem_cons.mpr ⟨lw_p31, fun _ h => absurd h List.not_mem_nil⟩⟩⟩⟩⟩⟩⟩⟩⟩⟩⟩⟩⟩⟩⟩⟩
theorem lw_p32 : lw_okq (⟨"PropagationDeskModel", "note", "(III)V"⟩, 37) := ⟨⟨by decide +kernel, by decide +kernel⟩, List.mem_of_getElem? (i := 434) (by decide +kernel), List.mem_of_getElem? (i := 620) (by decide +kernel), List.mem_of_getElem? (i := 621) (by decide +kernel)⟩
theorem lw_p33 : lw_okq (⟨"PropagationDeskModel", "locked", "(IZ)Z"⟩, 37) := ⟨⟨by decide +kernel, by decide +kernel⟩, List.mem_of_getElem? (i := 434) (by decide +kernel), List.mem_of_getElem? (i := 624) (by decide +kernel), List.mem_of_getElem? (i := 625) (by decide +kernel)⟩
theorem lw_p34 : lw_okq (⟨"PropagationDeskModel", "touched", "(I)V"⟩, 37) := ⟨⟨by decide +kernel, by decide +kernel⟩, List.mem_of_getElem? (i := 434) (by decide +kernel), List.mem_of_getElem? (i := 628) (by decide +kernel), List.mem_of_getElem? (i := 629) (by decide +kernel)⟩
theorem lw_p35 : lw_okq (⟨"PropagationDeskModel", "got", "(I)I"⟩, 37) := ⟨⟨by decide +kernel, by decide +kernel⟩, List.mem_of_getElem? (i := 434) (by decide +kernel), List.mem_of_getElem? (i := 632) (by decide +kernel), List.mem_of_getElem? (i := 633) (by decide +kernel)⟩
theorem lw_p36 : lw_okq (⟨"PropagationDeskModel", "put", "(II)V"⟩, 37) := ⟨⟨by decide +kernel, by decide +kernel⟩, List.mem_of_getElem? (i := 434) (by decide +kernel), List.mem_of_getElem? (i := 636) (by decide +kernel), List.mem_of_getElem? (i := 637) (by decide +kernel)⟩
theorem lw_p37 : lw_okq (⟨"PropagationDeskModel", "addHook", "(II)V"⟩, 37) := ⟨⟨by decide +kernel, by decide +kernel⟩, List.mem_of_getElem? (i := 434) (by decide +kernel), List.mem_of_getElem? (i := 640) (by decide +kernel), List.mem_of_getElem? (i := 641) (by decide +kernel)⟩
theorem lw_p38 : lw_okq (⟨"PropagationDeskModel", "finish", "()V"⟩, 37) := ⟨⟨by decide +kernel, by decide +kernel⟩, List.mem_of_getElem? (i := 434) (by decide +kernel), List.mem_of_getElem? (i := 644) (by decide +kernel), List.mem_of_getElem? (i := 645) (by decide +kernel)⟩
theorem lw_p39 : lw_okq (⟨"PropagationDeskModel", "unmark", "(IZ)I"⟩, 37) := ⟨⟨by decide +kernel, by decide +kernel⟩, List.mem_of_getElem? (i := 434) (by decide +kernel), List.mem_of_getElem? (i := 648) (by decide +kernel), List.mem_of_getElem? (i := 649) (by decide +kernel)⟩
theorem lw_p40 : lw_okq (⟨"PropagationDeskModel", "endBegun", "(IZ)I"⟩, 37) := ⟨⟨by decide +kernel, by decide +kernel⟩, List.mem_of_getElem? (i := 434) (by decide +kernel), List.mem_of_getElem? (i := 652) (by decide +kernel), List.mem_of_getElem? (i := 653) (by decide +kernel)⟩
theorem lw_p41 : lw_okq (⟨"PropagationDeskModel", "rollBack", "(I)V"⟩, 37) := ⟨⟨by decide +kernel, by decide +kernel⟩, List.mem_of_getElem? (i := 434) (by decide +kernel), List.mem_of_getElem? (i := 656) (by decide +kernel), List.mem_of_getElem? (i := 657) (by decide +kernel)⟩
theorem lw_p42 : lw_okq (⟨"PropagationDeskModel", "noteHooks", "(II)V"⟩, 37) := ⟨⟨by decide +kernel, by decide +kernel⟩, List.mem_of_getElem? (i := 434) (by decide +kernel), List.mem_of_getElem? (i := 660) (by decide +kernel), List.mem_of_getElem? (i := 661) (by decide +kernel)⟩
theorem lw_p43 : lw_okq (⟨"PropagationDeskModel", "commit", "(I)Z"⟩, 37) := ⟨⟨by decide +kernel, by decide +kernel⟩, List.mem_of_getElem? (i := 434) (by decide +kernel), List.mem_of_getElem? (i := 664) (by decide +kernel), List.mem_of_getElem? (i := 665) (by decide +kernel)⟩
theorem lw_p44 : lw_okq (⟨"PropagationDeskModel", "kept", "(I)Z"⟩, 37) := ⟨⟨by decide +kernel, by decide +kernel⟩, List.mem_of_getElem? (i := 434) (by decide +kernel), List.mem_of_getElem? (i := 684) (by decide +kernel), List.mem_of_getElem? (i := 685) (by decide +kernel)⟩
def lw_privs_3 : List (MethodName × Nat) := [(⟨"PropagationDeskModel", "note", "(III)V"⟩, 37), (⟨"PropagationDeskModel", "locked", "(IZ)Z"⟩, 37), (⟨"PropagationDeskModel", "touched", "(I)V"⟩, 37), (⟨"PropagationDeskModel", "got", "(I)I"⟩, 37), (⟨"PropagationDeskModel", "put", "(II)V"⟩, 37), (⟨"PropagationDeskModel", "addHook", "(II)V"⟩, 37), (⟨"PropagationDeskModel", "finish", "()V"⟩, 37), (⟨"PropagationDeskModel", "unmark", "(IZ)I"⟩, 37), (⟨"PropagationDeskModel", "endBegun", "(IZ)I"⟩, 37), (⟨"PropagationDeskModel", "rollBack", "(I)V"⟩, 37), (⟨"PropagationDeskModel", "noteHooks", "(II)V"⟩, 37), (⟨"PropagationDeskModel", "commit", "(I)Z"⟩, 37), (⟨"PropagationDeskModel", "kept", "(I)Z"⟩, 37)]
theorem lw_r3 : ∀ q ∈ lw_privs_3, lw_okq q := List.forall_mem_cons.mpr ⟨lw_p32, List.forall_mem_cons.mpr ⟨lw_p33, List.forall_mem_cons.mpr ⟨lw_p34, List.forall_mem_cons.mpr ⟨lw_p35, List.forall_mem_cons.mpr ⟨lw_p36, List.forall_mem_cons.mpr ⟨lw_p37, List.forall_mem_cons.mpr ⟨lw_p38, List.forall_mem_cons.mpr ⟨lw_p39, List.forall_mem_cons.mpr ⟨lw_p40, List.forall_mem_cons.mpr ⟨lw_p41, List.forall_mem_cons.mpr ⟨lw_p42, List.forall_mem_cons.mpr ⟨lw_p43, List.forall_mem_cons.mpr ⟨lw_p44, fun _ h => absurd h List.not_mem_nil⟩⟩⟩⟩⟩⟩⟩⟩⟩⟩⟩⟩⟩
def lw_privs : List (MethodName × Nat) := lw_privs_1 ++ (lw_privs_2 ++ (lw_privs_3))
def lw_tbl : List Cond := k2_sels lw_privs ++ tables_1
theorem lw_privs_ok : ∀ q ∈ lw_privs, lw_okq q := by
  show ∀ q ∈ lw_privs_1 ++ (lw_privs_2 ++ (lw_privs_3)), lw_okq q
  exact List.forall_mem_append.mpr ⟨lw_r1, List.forall_mem_append.mpr ⟨lw_r2, lw_r3⟩⟩
end
section
/-! names and tables of the small machine: printed by wip/whole/gen_names2.py out of the Statement -/
def m_cns : List String := ["PropagationDesk", "PropagationDesk$Kinds", "PropagationDesk$Plan", "PropagationDesk$Transaction", "PropagationDesk$Frame", "PropagationDesk$Journal", "PropagationDeskModel", "PropagationDeskLaw", "java/lang/Object"]
def m_cn (c : Nat) : String := m_cns.getD c ""
def mT0 : u_T := fun k => match k with
  | 0 => ("PropagationDesk", "kinds", "LPropagationDesk$Kinds;", true)
  | 1 => ("PropagationDesk", "plans", "[LPropagationDesk$Plan;", true)
  | 2 => ("PropagationDesk", "planCount", "I", false)
  | 3 => ("PropagationDesk", "committed", "[I", true)
  | 4 => ("PropagationDesk", "frames", "[LPropagationDesk$Frame;", true)
  | 5 => ("PropagationDesk", "journal", "LPropagationDesk$Journal;", true)
  | 6 => ("PropagationDesk", "tallies", "[I", true)
  | _ => ("PropagationDesk", "callsMade", "I", false)
def mTy0 : Nat → FieldType := fun k => match k with
  | 0 => .object "PropagationDesk$Kinds"
  | 1 => .array (.object "PropagationDesk$Plan")
  | 2 => .int
  | 3 => .array .int
  | 4 => .array (.object "PropagationDesk$Frame")
  | 5 => .object "PropagationDesk$Journal"
  | 6 => .array .int
  | _ => .int
def mT1 : u_T := fun k => match k with
  | 0 => ("PropagationDesk$Kinds", "parents", "[I", true)
  | _ => ("PropagationDesk$Kinds", "made", "I", false)
def mTy1 : Nat → FieldType := fun k => match k with
  | 0 => .array .int
  | _ => .int
def mT2 : u_T := fun k => match k with
  | 0 => ("PropagationDesk$Plan", "mode", "I", false)
  | 1 => ("PropagationDesk$Plan", "ruleKinds", "[I", true)
  | 2 => ("PropagationDesk$Plan", "ruleBacks", "[Z", true)
  | 3 => ("PropagationDesk$Plan", "ruleCount", "I", false)
  | 4 => ("PropagationDesk$Plan", "ops", "[I", true)
  | 5 => ("PropagationDesk$Plan", "firsts", "[I", true)
  | 6 => ("PropagationDesk$Plan", "seconds", "[I", true)
  | _ => ("PropagationDesk$Plan", "stepCount", "I", false)
def mTy2 : Nat → FieldType := fun k => match k with
  | 0 => .int
  | 1 => .array .int
  | 2 => .array .boolean
  | 3 => .int
  | 4 => .array .int
  | 5 => .array .int
  | 6 => .array .int
  | _ => .int
def mT3 : u_T := fun k => match k with
  | 0 => ("PropagationDesk$Transaction", "values", "[I", true)
  | 1 => ("PropagationDesk$Transaction", "owns", "[Z", true)
  | 2 => ("PropagationDesk$Transaction", "read", "[Z", true)
  | 3 => ("PropagationDesk$Transaction", "written", "[Z", true)
  | 4 => ("PropagationDesk$Transaction", "hooks", "[I", true)
  | 5 => ("PropagationDesk$Transaction", "bad", "[Z", true)
  | 6 => ("PropagationDesk$Transaction", "hookCount", "I", false)
  | _ => ("PropagationDesk$Transaction", "spoiled", "Z", false)
def mTy3 : Nat → FieldType := fun k => match k with
  | 0 => .array .int
  | 1 => .array .boolean
  | 2 => .array .boolean
  | 3 => .array .boolean
  | 4 => .array .int
  | 5 => .array .boolean
  | 6 => .int
  | _ => .boolean
def mT4 : u_T := fun k => match k with
  | 0 => ("PropagationDesk$Frame", "own", "LPropagationDesk$Transaction;", true)
  | 1 => ("PropagationDesk$Frame", "current", "LPropagationDesk$Transaction;", false)
  | 2 => ("PropagationDesk$Frame", "suspended", "LPropagationDesk$Transaction;", false)
  | 3 => ("PropagationDesk$Frame", "way", "I", false)
  | 4 => ("PropagationDesk$Frame", "only", "Z", false)
  | 5 => ("PropagationDesk$Frame", "markedValues", "[I", true)
  | 6 => ("PropagationDesk$Frame", "markedOwns", "[Z", true)
  | _ => ("PropagationDesk$Frame", "markedSpoiled", "Z", false)
def mTy4 : Nat → FieldType := fun k => match k with
  | 0 => .object "PropagationDesk$Transaction"
  | 1 => .object "PropagationDesk$Transaction"
  | 2 => .object "PropagationDesk$Transaction"
  | 3 => .int
  | 4 => .boolean
  | 5 => .array .int
  | 6 => .array .boolean
  | _ => .boolean
def mT5 : u_T := fun k => match k with
  | 0 => ("PropagationDesk$Journal", "codes", "[I", true)
  | 1 => ("PropagationDesk$Journal", "amounts", "[I", true)
  | _ => ("PropagationDesk$Journal", "total", "I", false)
def mTy5 : Nat → FieldType := fun k => match k with
  | 0 => .array .int
  | 1 => .array .int
  | _ => .int
def mT6 : u_T := fun k => match k with
  | 0 => ("PropagationDeskModel", "classes", "I", false)
  | 1 => ("PropagationDeskModel", "under", "[I", false)
  | 2 => ("PropagationDeskModel", "methods", "I", false)
  | 3 => ("PropagationDeskModel", "mode", "[I", false)
  | 4 => ("PropagationDeskModel", "rules", "[I", false)
  | 5 => ("PropagationDeskModel", "ruleClass", "[I", false)
  | 6 => ("PropagationDeskModel", "ruleBack", "[Z", false)
  | 7 => ("PropagationDeskModel", "steps", "[I", false)
  | 8 => ("PropagationDeskModel", "stepOp", "[I", false)
  | 9 => ("PropagationDeskModel", "stepA", "[I", false)
  | 10 => ("PropagationDeskModel", "stepB", "[I", false)
  | 11 => ("PropagationDeskModel", "committed", "[I", false)
  | 12 => ("PropagationDeskModel", "counts", "[I", false)
  | 13 => ("PropagationDeskModel", "called", "I", false)
  | 14 => ("PropagationDeskModel", "happened", "I", false)
  | 15 => ("PropagationDeskModel", "codes", "[I", false)
  | 16 => ("PropagationDeskModel", "amounts", "[I", false)
  | 17 => ("PropagationDeskModel", "depth", "I", false)
  | 18 => ("PropagationDeskModel", "current", "I", false)
  | 19 => ("PropagationDeskModel", "result", "I", false)
  | 20 => ("PropagationDeskModel", "running", "[I", false)
  | 21 => ("PropagationDeskModel", "next", "[I", false)
  | 22 => ("PropagationDeskModel", "flying", "[I", false)
  | 23 => ("PropagationDeskModel", "stands", "[I", false)
  | 24 => ("PropagationDeskModel", "held", "[I", false)
  | 25 => ("PropagationDeskModel", "only", "[Z", false)
  | 26 => ("PropagationDeskModel", "oldOwn", "[Z", false)
  | 27 => ("PropagationDeskModel", "oldValue", "[I", false)
  | 28 => ("PropagationDeskModel", "oldSpoiled", "[Z", false)
  | 29 => ("PropagationDeskModel", "own", "[Z", false)
  | 30 => ("PropagationDeskModel", "ownValue", "[I", false)
  | 31 => ("PropagationDeskModel", "hasRead", "[Z", false)
  | 32 => ("PropagationDeskModel", "hasWritten", "[Z", false)
  | 33 => ("PropagationDeskModel", "spoiled", "[Z", false)
  | 34 => ("PropagationDeskModel", "hooks", "[I", false)
  | 35 => ("PropagationDeskModel", "hook", "[I", false)
  | _ => ("PropagationDeskModel", "badHook", "[Z", false)
def mTy6 : Nat → FieldType := fun k => match k with
  | 0 => .int
  | 1 => .array .int
  | 2 => .int
  | 3 => .array .int
  | 4 => .array .int
  | 5 => .array .int
  | 6 => .array .boolean
  | 7 => .array .int
  | 8 => .array .int
  | 9 => .array .int
  | 10 => .array .int
  | 11 => .array .int
  | 12 => .array .int
  | 13 => .int
  | 14 => .int
  | 15 => .array .int
  | 16 => .array .int
  | 17 => .int
  | 18 => .int
  | 19 => .int
  | 20 => .array .int
  | 21 => .array .int
  | 22 => .array .int
  | 23 => .array .int
  | 24 => .array .int
  | 25 => .array .boolean
  | 26 => .array .boolean
  | 27 => .array .int
  | 28 => .array .boolean
  | 29 => .array .boolean
  | 30 => .array .int
  | 31 => .array .boolean
  | 32 => .array .boolean
  | 33 => .array .boolean
  | 34 => .array .int
  | 35 => .array .int
  | _ => .array .boolean
abbrev mCl : List vw_C := [("PropagationDesk", mT0, 8), ("PropagationDesk$Kinds", mT1, 2), ("PropagationDesk$Plan", mT2, 8), ("PropagationDesk$Transaction", mT3, 8), ("PropagationDesk$Frame", mT4, 8), ("PropagationDesk$Journal", mT5, 3), ("PropagationDeskModel", mT6, 37)]
def m_nf (c : Nat) : Nat := ([8, 2, 8, 8, 8, 3, 37] : List Nat).getD c 0
def m_fts : List (List Nat) := [[2, 2, 0, 2, 2, 2, 2, 0], [2, 0], [0, 2, 2, 0, 2, 2, 2, 0], [2, 2, 2, 2, 2, 2, 0, 1], [2, 2, 2, 0, 1, 2, 2, 1], [2, 2, 0], [0, 2, 0, 2, 2, 2, 2, 2, 2, 2, 2, 2, 2, 0, 0, 2, 2, 0, 0, 0, 2, 2, 2, 2, 2, 2, 2, 2, 2, 2, 2, 2, 2, 2, 2, 2, 2]]
def m_ft (c j : Nat) : Nat := (m_fts.getD c []).getD j 0
def m_ak (t : Nat) : Nat := if t = 3 then 2 else 4
def m_mns : List MethodName := [⟨"A", "a", "()V"⟩, ⟨"PropagationDesk$Kinds", "<init>", "()V"⟩, ⟨"PropagationDesk", "<init>", "()V"⟩, ⟨"PropagationDesk$Plan", "<init>", "()V"⟩, ⟨"PropagationDesk$Frame", "<init>", "()V"⟩, ⟨"PropagationDesk$Transaction", "<init>", "()V"⟩, ⟨"PropagationDesk$Journal", "<init>", "()V"⟩, ⟨"PropagationDesk", "kind", "(I)I"⟩, ⟨"PropagationDesk$Kinds", "has", "(I)Z"⟩, ⟨"PropagationDesk$Kinds", "add", "(I)I"⟩, ⟨"PropagationDesk", "method", "(I)I"⟩, ⟨"PropagationDesk", "rule", "(IIZ)Z"⟩, ⟨"PropagationDesk", "hasMethod", "(I)Z"⟩, ⟨"PropagationDesk$Plan", "addRule", "(IZ)Z"⟩, ⟨"PropagationDesk", "step", "(IIII)I"⟩, ⟨"PropagationDesk", "fits", "(IIII)Z"⟩, ⟨"PropagationDesk", "isKey", "(I)Z"⟩, ⟨"PropagationDesk$Plan", "addStep", "(III)I"⟩, ⟨"PropagationDesk", "invoke", "(I)I"⟩, ⟨"PropagationDesk$Journal", "clear", "()V"⟩, ⟨"PropagationDesk", "call", "(ILPropagationDesk$Transaction;I)I"⟩, ⟨"PropagationDesk", "enter", "(LPropagationDesk$Frame;ILPropagationDesk$Transaction;)I"⟩, ⟨"PropagationDesk$Frame", "clear", "()V"⟩, ⟨"PropagationDesk", "enterAlone", "(LPropagationDesk$Frame;I)I"⟩, ⟨"PropagationDesk", "begin", "(LPropagationDesk$Frame;)V"⟩, ⟨"PropagationDesk$Transaction", "clear", "()V"⟩, ⟨"PropagationDesk", "enterWithin", "(LPropagationDesk$Frame;ILPropagationDesk$Transaction;)I"⟩, ⟨"PropagationDesk$Frame", "mark", "(LPropagationDesk$Transaction;)V"⟩, ⟨"PropagationDesk", "doStep", "(IIII)I"⟩, ⟨"PropagationDesk", "get", "(II)I"⟩, ⟨"PropagationDesk", "locked", "(IZI)Z"⟩, ⟨"PropagationDesk", "seen", "(ILPropagationDesk$Transaction;)I"⟩, ⟨"PropagationDesk$Transaction", "seen", "(II)I"⟩, ⟨"PropagationDesk$Journal", "record", "(III)V"⟩, ⟨"PropagationDesk", "put", "(III)I"⟩, ⟨"PropagationDesk", "write", "(IILPropagationDesk$Transaction;)V"⟩, ⟨"PropagationDesk$Transaction", "write", "(II)V"⟩, ⟨"PropagationDesk", "add", "(III)I"⟩, ⟨"PropagationDesk", "callAndCatch", "(III)I"⟩, ⟨"PropagationDesk$Kinds", "under", "(II)Z"⟩, ⟨"PropagationDesk$Kinds", "distance", "(II)I"⟩, ⟨"PropagationDesk$Transaction", "addHook", "(IZ)V"⟩, ⟨"PropagationDesk", "end", "(LPropagationDesk$Frame;LPropagationDesk$Plan;I)I"⟩, ⟨"PropagationDesk$Plan", "goesBackFor", "(ILPropagationDesk$Kinds;)Z"⟩, ⟨"PropagationDesk", "endMarked", "(LPropagationDesk$Frame;LPropagationDesk$Transaction;ZI)I"⟩, ⟨"PropagationDesk$Frame", "restore", "(LPropagationDesk$Transaction;)V"⟩, ⟨"PropagationDesk", "endBegun", "(LPropagationDesk$Transaction;ZI)I"⟩, ⟨"PropagationDesk", "refusalToCommit", "(LPropagationDesk$Transaction;)I"⟩, ⟨"PropagationDesk", "commit", "(LPropagationDesk$Transaction;)V"⟩, ⟨"PropagationDesk", "tellHooks", "(LPropagationDesk$Transaction;I)V"⟩, ⟨"PropagationDesk", "rollBack", "(LPropagationDesk$Transaction;)V"⟩, ⟨"PropagationDesk", "set", "(II)Z"⟩, ⟨"PropagationDesk", "value", "(I)I"⟩, ⟨"PropagationDesk", "is", "(II)Z"⟩, ⟨"PropagationDesk", "rolls", "(II)Z"⟩, ⟨"PropagationDesk", "events", "()I"⟩, ⟨"PropagationDesk", "event", "(I)I"⟩, ⟨"PropagationDesk$Journal", "keeps", "(I)Z"⟩, ⟨"PropagationDesk", "amount", "(I)I"⟩, ⟨"PropagationDesk", "calls", "()I"⟩, ⟨"PropagationDesk", "count", "(I)I"⟩, ⟨"PropagationDesk", "size", "(I)I"⟩, ⟨"PropagationDeskModel", "<init>", "()V"⟩, ⟨"PropagationDeskModel", "kind", "(I)I"⟩, ⟨"PropagationDeskModel", "isClass", "(I)Z"⟩, ⟨"PropagationDeskModel", "method", "(I)I"⟩, ⟨"PropagationDeskModel", "rule", "(IIZ)Z"⟩, ⟨"PropagationDeskModel", "isMethod", "(I)Z"⟩, ⟨"PropagationDeskModel", "step", "(IIII)I"⟩, ⟨"PropagationDeskModel", "asSaid", "(IIII)Z"⟩, ⟨"PropagationDeskModel", "is", "(II)Z"⟩, ⟨"PropagationDeskModel", "distance", "(II)I"⟩, ⟨"PropagationDeskModel", "rolls", "(II)Z"⟩, ⟨"PropagationDeskModel", "goesBack", "(II)Z"⟩, ⟨"PropagationDeskModel", "invoke", "(I)I"⟩, ⟨"PropagationDeskModel", "enter", "(I)I"⟩, ⟨"PropagationDeskModel", "begin", "(I)V"⟩, ⟨"PropagationDeskModel", "mark", "(I)V"⟩, ⟨"PropagationDeskModel", "doStep", "()V"⟩, ⟨"PropagationDeskModel", "arrive", "(I)V"⟩, ⟨"PropagationDeskModel", "note", "(III)V"⟩, ⟨"PropagationDeskModel", "locked", "(IZ)Z"⟩, ⟨"PropagationDeskModel", "touched", "(I)V"⟩, ⟨"PropagationDeskModel", "got", "(I)I"⟩, ⟨"PropagationDeskModel", "put", "(II)V"⟩, ⟨"PropagationDeskModel", "addHook", "(II)V"⟩, ⟨"PropagationDeskModel", "finish", "()V"⟩, ⟨"PropagationDeskModel", "unmark", "(IZ)I"⟩, ⟨"PropagationDeskModel", "endBegun", "(IZ)I"⟩, ⟨"PropagationDeskModel", "rollBack", "(I)V"⟩, ⟨"PropagationDeskModel", "noteHooks", "(II)V"⟩, ⟨"PropagationDeskModel", "commit", "(I)Z"⟩, ⟨"PropagationDeskModel", "set", "(II)Z"⟩, ⟨"PropagationDeskModel", "value", "(I)I"⟩, ⟨"PropagationDeskModel", "events", "()I"⟩, ⟨"PropagationDeskModel", "event", "(I)I"⟩, ⟨"PropagationDeskModel", "kept", "(I)Z"⟩, ⟨"PropagationDeskModel", "amount", "(I)I"⟩, ⟨"PropagationDeskModel", "calls", "()I"⟩, ⟨"PropagationDeskModel", "count", "(I)I"⟩, ⟨"PropagationDeskModel", "size", "(I)I"⟩, ⟨"PropagationDeskLaw", "law", "([I)Z"⟩]
def m_mn (y : Nat) : MethodName := m_mns.getD y ⟨"A", "a", "()V"⟩
abbrev m_on (y : Nat) : String := (m_mn y).cls
def m_mx (y : Nat) : Nat := ([1, 1, 2, 1, 1, 1, 1, 2, 2, 2, 2, 4, 2, 3, 5, 5, 1, 4, 2, 1, 8, 4, 1, 3, 2, 2, 4, 3, 6, 4, 6, 3, 3, 4, 4, 4, 3, 5, 5, 3, 5, 3, 6, 7, 6, 3, 5, 3, 3, 4, 2, 3, 2, 3, 3, 1, 2, 2, 2, 1, 2, 2, 2, 2, 2, 2, 4, 2, 6, 5, 3, 5, 3, 7, 3, 4, 3, 3, 7, 4, 4, 6, 2, 2, 3, 4, 4, 5, 3, 2, 4, 3, 3, 2, 1, 2, 2, 2, 1, 2, 2, 4] : List Nat).getD y 0
def m_rt (y : Nat) : Nat := ([0, 0, 0, 0, 0, 0, 0, 1, 2, 1, 1, 2, 2, 2, 1, 2, 2, 1, 1, 0, 1, 1, 0, 1, 0, 0, 1, 0, 1, 1, 2, 1, 1, 0, 1, 0, 0, 1, 1, 2, 1, 0, 1, 2, 1, 0, 1, 1, 0, 0, 0, 2, 1, 2, 2, 1, 1, 2, 1, 1, 1, 1, 0, 1, 2, 1, 2, 2, 1, 2, 2, 1, 2, 2, 1, 1, 0, 0, 0, 0, 0, 2, 0, 1, 0, 0, 0, 1, 1, 0, 0, 2, 2, 1, 1, 1, 2, 1, 1, 1, 1, 2] : List Nat).getD y 0
def m_na (y : Nat) : Nat := ([0, 0, 0, 0, 0, 0, 0, 1, 1, 1, 1, 3, 1, 2, 4, 4, 1, 3, 1, 0, 3, 3, 0, 2, 1, 0, 3, 1, 4, 2, 3, 2, 2, 3, 3, 3, 2, 3, 3, 2, 2, 2, 3, 2, 4, 1, 3, 1, 1, 2, 1, 2, 1, 2, 2, 0, 1, 1, 1, 0, 1, 1, 0, 1, 1, 1, 3, 1, 4, 4, 2, 2, 2, 2, 1, 1, 1, 1, 0, 1, 3, 2, 1, 1, 2, 2, 0, 2, 2, 1, 2, 1, 2, 1, 0, 1, 1, 1, 0, 1, 1, 1] : List Nat).getD y 0
def m_kd (y : Nat) : Nat := ([9, 2, 2, 2, 2, 2, 2, 1, 1, 1, 1, 1, 1, 1, 1, 1, 0, 1, 1, 1, 1, 1, 1, 1, 1, 1, 1, 1, 1, 1, 1, 1, 1, 1, 1, 1, 1, 1, 1, 1, 1, 1, 1, 1, 1, 1, 1, 1, 1, 1, 1, 1, 1, 1, 1, 1, 1, 1, 1, 1, 1, 1, 2, 1, 1, 1, 1, 1, 1, 1, 1, 1, 1, 1, 1, 1, 1, 1, 1, 1, 1, 1, 1, 1, 1, 1, 1, 1, 1, 1, 1, 1, 1, 1, 1, 1, 1, 1, 1, 1, 1, 0] : List Nat).getD y 0
def m_oc (y : Nat) : Nat := ([9, 1, 0, 2, 4, 3, 5, 0, 1, 1, 0, 0, 0, 2, 0, 0, 0, 2, 0, 5, 0, 0, 4, 0, 0, 3, 0, 4, 0, 0, 0, 0, 3, 5, 0, 0, 3, 0, 0, 1, 1, 3, 0, 2, 0, 4, 0, 0, 0, 0, 0, 0, 0, 0, 0, 0, 0, 5, 0, 0, 0, 0, 6, 6, 6, 6, 6, 6, 6, 6, 6, 6, 6, 6, 6, 6, 6, 6, 6, 6, 6, 6, 6, 6, 6, 6, 6, 6, 6, 6, 6, 6, 6, 6, 6, 6, 6, 6, 6, 6, 6, 7] : List Nat).getD y 9
def m_bg (y : Nat) : Nat × Nat := ([(0, 0), (1, 16), (169, 1245), (5, 30), (9, 48), (6, 32), (2, 256), (0, 0), (0, 0), (0, 0), (0, 0), (0, 0), (0, 0), (0, 0), (0, 0), (0, 0), (0, 0), (0, 0), (0, 0), (0, 0), (0, 0), (0, 0), (0, 0), (0, 0), (0, 0), (0, 0), (0, 0), (0, 0), (0, 0), (0, 0), (0, 0), (0, 0), (0, 0), (0, 0), (0, 0), (0, 0), (0, 0), (0, 0), (0, 0), (0, 0), (0, 0), (0, 0), (0, 0), (0, 0), (0, 0), (0, 0), (0, 0), (0, 0), (0, 0), (0, 0), (0, 0), (0, 0), (0, 0), (0, 0), (0, 0), (0, 0), (0, 0), (0, 0), (0, 0), (0, 0), (0, 0), (0, 0), (30, 1100), (0, 0), (0, 0), (0, 0), (0, 0), (0, 0), (0, 0), (0, 0), (0, 0), (0, 0), (0, 0), (0, 0), (0, 0), (0, 0), (0, 0), (0, 0), (0, 0), (0, 0), (0, 0), (0, 0), (0, 0), (0, 0), (0, 0), (0, 0), (0, 0), (0, 0), (0, 0), (0, 0), (0, 0), (0, 0), (0, 0), (0, 0), (0, 0), (0, 0), (0, 0), (0, 0), (0, 0), (0, 0), (0, 0), (201, 2390)] : List (Nat × Nat)).getD y (0, 0)
def m_rf (y : Nat) : Option FieldType := if m_rt y = 0 then none else if m_rt y = 1 then some .int else some .boolean
theorem m_rf0 {y : Nat} (h : m_rt y = 0) : m_rf y = none := if_pos h
theorem m_rf1 {y : Nat} (h : m_rt y = 1) : m_rf y = some .int := by unfold m_rf; rw [h]; rfl
theorem m_rf2 {y : Nat} (h : m_rt y = 2) : m_rf y = some .boolean := by unfold m_rf; rw [h]; rfl
/-- 0: Obj -/
def m_cd0 : List (Nat × Jvm.ClassFile.Instr) := []
/-- 1: Kinds_init -/
def m_cd1 : List (Nat × Jvm.ClassFile.Instr) := []
/-- 2: Desk_init -/
def m_cd2 : List (Nat × Jvm.ClassFile.Instr) := [(0, .aload_n 0), (1, .invokespecial 1), (4, .aload_n 0), (5, .new 7), (8, .dup), (9, .invokespecial 9), (12, .putfield 10), (15, .aload_n 0), (16, .bipush 10), (18, .anewarray 16), (21, .putfield 18), (24, .aload_n 0), (25, .iconst 4), (26, .newarray .int), (28, .putfield 22), (31, .aload_n 0), (32, .bipush 10), (34, .anewarray 26), (37, .putfield 28), (40, .iconst 0), (41, .istore_n 1), (42, .iload_n 1), (43, .bipush 10), (45, .if_icmp .ge 35), (48, .aload_n 0), (49, .getfield 18), (52, .iload_n 1), (53, .new 16), (56, .dup), (57, .invokespecial 32), (60, .aastore), (61, .aload_n 0), (62, .getfield 28), (65, .iload_n 1), (66, .new 26), (69, .dup), (70, .invokespecial 33), (73, .aastore), (74, .iinc 1 1), (77, .goto (-35)), (80, .aload_n 0), (81, .new 34), (84, .dup), (85, .invokespecial 36), (88, .putfield 37), (91, .aload_n 0), (92, .iconst 4), (93, .newarray .int), (95, .putfield 41), (98, .return_)]
/-- 3: Plan_init -/
def m_cd3 : List (Nat × Jvm.ClassFile.Instr) := [(0, .aload_n 0), (1, .invokespecial 3), (4, .aload_n 0), (5, .iconst 3), (6, .newarray .int), (8, .putfield 9), (11, .aload_n 0), (12, .iconst 3), (13, .newarray .boolean), (15, .putfield 15), (18, .aload_n 0), (19, .bipush 8), (21, .newarray .int), (23, .putfield 19), (26, .aload_n 0), (27, .bipush 8), (29, .newarray .int), (31, .putfield 22), (34, .aload_n 0), (35, .bipush 8), (37, .newarray .int), (39, .putfield 25), (42, .return_)]
/-- 4: Frame_init -/
def m_cd4 : List (Nat × Jvm.ClassFile.Instr) := [(0, .aload_n 0), (1, .invokespecial 3), (4, .aload_n 0), (5, .new 9), (8, .dup), (9, .invokespecial 11), (12, .putfield 12), (15, .aload_n 0), (16, .iconst 4), (17, .newarray .int), (19, .putfield 18), (22, .aload_n 0), (23, .iconst 4), (24, .newarray .boolean), (26, .putfield 22), (29, .return_)]
/-- 5: Tx_init -/
def m_cd5 : List (Nat × Jvm.ClassFile.Instr) := [(0, .aload_n 0), (1, .invokespecial 3), (4, .aload_n 0), (5, .iconst 4), (6, .newarray .int), (8, .putfield 9), (11, .aload_n 0), (12, .iconst 4), (13, .newarray .boolean), (15, .putfield 15), (18, .aload_n 0), (19, .iconst 4), (20, .newarray .boolean), (22, .putfield 19), (25, .aload_n 0), (26, .iconst 4), (27, .newarray .boolean), (29, .putfield 22), (32, .aload_n 0), (33, .bipush 8), (35, .newarray .int), (37, .putfield 25), (40, .aload_n 0), (41, .bipush 8), (43, .newarray .boolean), (45, .putfield 28), (48, .return_)]
/-- 6: Journal_init -/
def m_cd6 : List (Nat × Jvm.ClassFile.Instr) := [(0, .aload_n 0), (1, .invokespecial 3), (4, .aload_n 0), (5, .sipush 128), (8, .newarray .int), (10, .putfield 9), (13, .aload_n 0), (14, .sipush 128), (17, .newarray .int), (19, .putfield 15), (22, .return_)]
/-- 7: Desk_kind -/
def m_cd7 : List (Nat × Jvm.ClassFile.Instr) := [(0, .aload_n 0), (1, .getfield 10), (4, .iload_n 1), (5, .invokevirtual 44), (8, .ifCond .eq 14), (11, .aload_n 0), (12, .getfield 10), (15, .iload_n 1), (16, .invokevirtual 48), (19, .goto 4), (22, .iconst (-1)), (23, .ireturn)]
/-- 8: Kinds_has -/
def m_cd8 : List (Nat × Jvm.ClassFile.Instr) := [(0, .iload_n 1), (1, .ifCond .lt 15), (4, .iload_n 1), (5, .aload_n 0), (6, .getfield 24), (9, .if_icmp .ge 7), (12, .iconst 1), (13, .goto 4), (16, .iconst 0), (17, .ireturn)]
/-- 9: Kinds_add -/
def m_cd9 : List (Nat × Jvm.ClassFile.Instr) := [(0, .aload_n 0), (1, .getfield 24), (4, .bipush 16), (6, .if_icmp .lt 5), (9, .iconst (-1)), (10, .ireturn), (11, .aload_n 0), (12, .getfield 19), (15, .aload_n 0), (16, .getfield 24), (19, .iload_n 1), (20, .iastore), (21, .aload_n 0), (22, .dup), (23, .getfield 24), (26, .iconst 1), (27, .iadd), (28, .putfield 24), (31, .aload_n 0), (32, .getfield 24), (35, .iconst 1), (36, .isub), (37, .ireturn)]
/-- 10: Desk_method -/
def m_cd10 : List (Nat × Jvm.ClassFile.Instr) := [(0, .iload_n 1), (1, .ifCond .lt 18), (4, .iload_n 1), (5, .bipush 6), (7, .if_icmp .gt 12), (10, .aload_n 0), (11, .getfield 52), (14, .bipush 10), (16, .if_icmp .lt 5), (19, .iconst (-1)), (20, .ireturn), (21, .aload_n 0), (22, .getfield 18), (25, .aload_n 0), (26, .getfield 52), (29, .aaload), (30, .iload_n 1), (31, .putfield 56), (34, .aload_n 0), (35, .dup), (36, .getfield 52), (39, .iconst 1), (40, .iadd), (41, .putfield 52), (44, .aload_n 0), (45, .getfield 52), (48, .iconst 1), (49, .isub), (50, .ireturn)]
/-- 11: Desk_rule -/
def m_cd11 : List (Nat × Jvm.ClassFile.Instr) := [(0, .aload_n 0), (1, .iload_n 1), (2, .invokevirtual 59), (5, .ifCond .eq 32), (8, .aload_n 0), (9, .getfield 10), (12, .iload_n 2), (13, .invokevirtual 44), (16, .ifCond .eq 21), (19, .aload_n 0), (20, .getfield 18), (23, .iload_n 1), (24, .aaload), (25, .iload_n 2), (26, .iload_n 3), (27, .invokevirtual 62), (30, .ifCond .eq 7), (33, .iconst 1), (34, .goto 4), (37, .iconst 0), (38, .ireturn)]
/-- 12: Desk_hasMethod -/
def m_cd12 : List (Nat × Jvm.ClassFile.Instr) := [(0, .iload_n 1), (1, .ifCond .lt 15), (4, .iload_n 1), (5, .aload_n 0), (6, .getfield 52), (9, .if_icmp .ge 7), (12, .iconst 1), (13, .goto 4), (16, .iconst 0), (17, .ireturn)]
/-- 13: Plan_addRule -/
def m_cd13 : List (Nat × Jvm.ClassFile.Instr) := [(0, .aload_n 0), (1, .getfield 28), (4, .iconst 3), (5, .if_icmp .lt 5), (8, .iconst 0), (9, .ireturn), (10, .aload_n 0), (11, .getfield 9), (14, .aload_n 0), (15, .getfield 28), (18, .iload_n 1), (19, .iastore), (20, .aload_n 0), (21, .getfield 15), (24, .aload_n 0), (25, .getfield 28), (28, .iload_n 2), (29, .bastore), (30, .aload_n 0), (31, .dup), (32, .getfield 28), (35, .iconst 1), (36, .iadd), (37, .putfield 28), (40, .iconst 1), (41, .ireturn)]
/-- 14: Desk_step -/
def m_cd14 : List (Nat × Jvm.ClassFile.Instr) := [(0, .aload_n 0), (1, .iload_n 1), (2, .invokevirtual 59), (5, .ifCond .eq 31), (8, .aload_n 0), (9, .iload_n 1), (10, .iload_n 2), (11, .iload_n 3), (12, .iload 4), (14, .invokevirtual 66), (17, .ifCond .eq 19), (20, .aload_n 0), (21, .getfield 18), (24, .iload_n 1), (25, .aaload), (26, .iload_n 2), (27, .iload_n 3), (28, .iload 4), (30, .invokevirtual 70), (33, .goto 4), (36, .iconst (-1)), (37, .ireturn)]
/-- 15: Desk_fits -/
def m_cd15 : List (Nat × Jvm.ClassFile.Instr) := [(0, .iload_n 2), (1, .tableswitch 119 0 6 #[43, 43, 43, 48, 81, 90, 92]), (44, .iload_n 3), (45, .invokestatic 84), (48, .ireturn), (49, .iload_n 3), (50, .ifCond .lt 30), (53, .iload_n 3), (54, .iload_n 1), (55, .if_icmp .ge 25), (58, .iload 4), (60, .iconst (-1)), (61, .if_icmp .eq 15), (64, .aload_n 0), (65, .getfield 10), (68, .iload 4), (70, .invokevirtual 44), (73, .ifCond .eq 7), (76, .iconst 1), (77, .goto 4), (80, .iconst 0), (81, .ireturn), (82, .aload_n 0), (83, .getfield 10), (86, .iload_n 3), (87, .invokevirtual 44), (90, .ireturn), (91, .iconst 1), (92, .ireturn), (93, .iload_n 3), (94, .ifCond .lt 24), (97, .iload_n 3), (98, .bipush 10), (100, .if_icmp .ge 18), (103, .iload 4), (105, .ifCond .eq 9), (108, .iload 4), (110, .iconst 1), (111, .if_icmp .ne 7), (114, .iconst 1), (115, .goto 4), (118, .iconst 0), (119, .ireturn), (120, .iconst 0), (121, .ireturn)]
/-- 16: Desk_isKey -/
def m_cd16 : List (Nat × Jvm.ClassFile.Instr) := [(0, .iload_n 0), (1, .ifCond .lt 12), (4, .iload_n 0), (5, .iconst 4), (6, .if_icmp .ge 7), (9, .iconst 1), (10, .goto 4), (13, .iconst 0), (14, .ireturn)]
/-- 17: Plan_addStep -/
def m_cd17 : List (Nat × Jvm.ClassFile.Instr) := [(0, .aload_n 0), (1, .getfield 32), (4, .bipush 8), (6, .if_icmp .lt 5), (9, .iconst (-1)), (10, .ireturn), (11, .aload_n 0), (12, .getfield 19), (15, .aload_n 0), (16, .getfield 32), (19, .iload_n 1), (20, .iastore), (21, .aload_n 0), (22, .getfield 22), (25, .aload_n 0), (26, .getfield 32), (29, .iload_n 2), (30, .iastore), (31, .aload_n 0), (32, .getfield 25), (35, .aload_n 0), (36, .getfield 32), (39, .iload_n 3), (40, .iastore), (41, .aload_n 0), (42, .dup), (43, .getfield 32), (46, .iconst 1), (47, .iadd), (48, .putfield 32), (51, .aload_n 0), (52, .getfield 32), (55, .ireturn)]
/-- 18: Desk_invoke -/
def m_cd18 : List (Nat × Jvm.ClassFile.Instr) := [(0, .aload_n 0), (1, .iload_n 1), (2, .invokevirtual 59), (5, .ifCond .ne 5), (8, .iconst (-1)), (9, .ireturn), (10, .aload_n 0), (11, .getfield 37), (14, .invokevirtual 74), (17, .aload_n 0), (18, .iconst 0), (19, .putfield 77), (22, .aload_n 0), (23, .iload_n 1), (24, .aconst_null), (25, .iconst 0), (26, .invokevirtual 80), (29, .iconst 1), (30, .iadd), (31, .ireturn)]
/-- 19: Journal_clear -/
def m_cd19 : List (Nat × Jvm.ClassFile.Instr) := [(0, .aload_n 0), (1, .iconst 0), (2, .putfield 18), (5, .return_)]
/-- 20: Desk_call -/
def m_cd20 : List (Nat × Jvm.ClassFile.Instr) := [(0, .aload_n 0), (1, .getfield 77), (4, .bipush 60), (6, .if_icmp .ge 17), (9, .iload_n 3), (10, .bipush 10), (12, .if_icmp .ge 11), (15, .aload_n 0), (16, .iload_n 1), (17, .invokevirtual 59), (20, .ifCond .ne 6), (23, .bipush 9), (25, .ireturn), (26, .aload_n 0), (27, .dup), (28, .getfield 77), (31, .iconst 1), (32, .iadd), (33, .putfield 77), (36, .aload_n 0), (37, .getfield 18), (40, .iload_n 1), (41, .aaload), (42, .astore 4), (44, .aload_n 0), (45, .aload_n 0), (46, .getfield 28), (49, .iload_n 3), (50, .aaload), (51, .aload 4), (53, .getfield 56), (56, .aload_n 2), (57, .invokevirtual 110), (60, .istore 5), (62, .iload 5), (64, .iconst (-1)), (65, .if_icmp .eq 6), (68, .iload 5), (70, .ireturn), (71, .iconst (-1)), (72, .istore 6), (74, .iconst 0), (75, .istore 7), (77, .iload 7), (79, .aload 4), (81, .getfield 114), (84, .if_icmp .ge 46), (87, .iload 6), (89, .iconst (-1)), (90, .if_icmp .ne 40), (93, .aload_n 0), (94, .aload 4), (96, .getfield 117), (99, .iload 7), (101, .iaload), (102, .aload 4), (104, .getfield 120), (107, .iload 7), (109, .iaload), (110, .aload 4), (112, .getfield 123), (115, .iload 7), (117, .iaload), (118, .iload_n 3), (119, .invokevirtual 126), (122, .istore 6), (124, .iinc 7 1), (127, .goto (-50)), (130, .aload_n 0), (131, .aload_n 0), (132, .getfield 28), (135, .iload_n 3), (136, .aaload), (137, .aload 4), (139, .iload 6), (141, .invokevirtual 130), (144, .ireturn)]
/-- 21: Desk_enter -/
def m_cd21 : List (Nat × Jvm.ClassFile.Instr) := [(0, .aload_n 1), (1, .invokevirtual 134), (4, .aload_n 3), (5, .ifnonnull 12), (8, .aload_n 0), (9, .aload_n 1), (10, .iload_n 2), (11, .invokevirtual 135), (14, .goto 10), (17, .aload_n 0), (18, .aload_n 1), (19, .iload_n 2), (20, .aload_n 3), (21, .invokevirtual 139), (24, .ireturn)]
/-- 22: Frame_clear -/
def m_cd22 : List (Nat × Jvm.ClassFile.Instr) := [(0, .aload_n 0), (1, .aconst_null), (2, .putfield 26), (5, .aload_n 0), (6, .aconst_null), (7, .putfield 29), (10, .aload_n 0), (11, .iconst 0), (12, .putfield 32), (15, .aload_n 0), (16, .iconst 0), (17, .putfield 36), (20, .return_)]
/-- 23: Desk_enterAlone -/
def m_cd23 : List (Nat × Jvm.ClassFile.Instr) := [(0, .iload_n 2), (1, .tableswitch 48 0 5 #[39, 39, 39, 48, 48, 46]), (40, .aload_n 0), (41, .aload_n 1), (42, .invokevirtual 142), (45, .iconst (-1)), (46, .ireturn), (47, .iconst 4), (48, .ireturn), (49, .iconst (-1)), (50, .ireturn)]
/-- 24: Desk_begin -/
def m_cd24 : List (Nat × Jvm.ClassFile.Instr) := [(0, .aload_n 1), (1, .getfield 160), (4, .invokevirtual 163), (7, .aload_n 1), (8, .iconst 3), (9, .putfield 154), (12, .aload_n 1), (13, .aload_n 1), (14, .getfield 160), (17, .putfield 157), (20, .aload_n 0), (21, .getfield 41), (24, .iconst 0), (25, .dup2), (26, .iaload), (27, .iconst 1), (28, .iadd), (29, .iastore), (30, .return_)]
/-- 25: Tx_clear -/
def m_cd25 : List (Nat × Jvm.ClassFile.Instr) := [(0, .iconst 0), (1, .istore_n 1), (2, .iload_n 1), (3, .iconst 4), (4, .if_icmp .ge 30), (7, .aload_n 0), (8, .getfield 15), (11, .iload_n 1), (12, .iconst 0), (13, .bastore), (14, .aload_n 0), (15, .getfield 19), (18, .iload_n 1), (19, .iconst 0), (20, .bastore), (21, .aload_n 0), (22, .getfield 22), (25, .iload_n 1), (26, .iconst 0), (27, .bastore), (28, .iinc 1 1), (31, .goto (-29)), (34, .aload_n 0), (35, .iconst 0), (36, .putfield 31), (39, .aload_n 0), (40, .iconst 0), (41, .putfield 35), (44, .return_)]
/-- 26: Desk_enterWithin -/
def m_cd26 : List (Nat × Jvm.ClassFile.Instr) := [(0, .iload_n 2), (1, .tableswitch 67 1 6 #[39, 51, 67, 58, 67, 65]), (40, .aload_n 1), (41, .aload_n 3), (42, .putfield 146), (45, .aload_n 0), (46, .aload_n 1), (47, .invokevirtual 142), (50, .iconst (-1)), (51, .ireturn), (52, .aload_n 1), (53, .aload_n 3), (54, .invokevirtual 150), (57, .iconst (-1)), (58, .ireturn), (59, .aload_n 1), (60, .aload_n 3), (61, .putfield 146), (64, .iconst (-1)), (65, .ireturn), (66, .iconst 5), (67, .ireturn), (68, .aload_n 1), (69, .iconst 1), (70, .putfield 154), (73, .aload_n 1), (74, .aload_n 3), (75, .putfield 157), (78, .iconst (-1)), (79, .ireturn)]
/-- 27: Frame_mark -/
def m_cd27 : List (Nat × Jvm.ClassFile.Instr) := [(0, .aload_n 0), (1, .iconst 2), (2, .putfield 32), (5, .aload_n 0), (6, .aload_n 1), (7, .putfield 26), (10, .aload_n 0), (11, .aload_n 1), (12, .getfield 40), (15, .putfield 43), (18, .iconst 0), (19, .istore_n 2), (20, .iload_n 2), (21, .iconst 4), (22, .if_icmp .ge 33), (25, .aload_n 0), (26, .getfield 18), (29, .iload_n 2), (30, .aload_n 1), (31, .getfield 46), (34, .iload_n 2), (35, .iaload), (36, .iastore), (37, .aload_n 0), (38, .getfield 22), (41, .iload_n 2), (42, .aload_n 1), (43, .getfield 49), (46, .iload_n 2), (47, .baload), (48, .bastore), (49, .iinc 2 1), (52, .goto (-32)), (55, .return_)]
/-- 28: Desk_doStep -/
def m_cd28 : List (Nat × Jvm.ClassFile.Instr) := [(0, .aload_n 0), (1, .getfield 28), (4, .iload 4), (6, .aaload), (7, .astore 5), (9, .iload_n 1), (10, .tableswitch 83 0 5 #[38, 46, 55, 64, 73, 75]), (48, .aload_n 0), (49, .iload_n 2), (50, .iload 4), (52, .invokevirtual 219), (55, .ireturn), (56, .aload_n 0), (57, .iload_n 2), (58, .iload_n 3), (59, .iload 4), (61, .invokevirtual 222), (64, .ireturn), (65, .aload_n 0), (66, .iload_n 2), (67, .iload_n 3), (68, .iload 4), (70, .invokevirtual 225), (73, .ireturn), (74, .aload_n 0), (75, .iload_n 2), (76, .iload_n 3), (77, .iload 4), (79, .invokevirtual 227), (82, .ireturn), (83, .iload_n 2), (84, .ireturn), (85, .aload 5), (87, .iconst 1), (88, .putfield 166), (91, .iconst (-1)), (92, .ireturn), (93, .aload 5), (95, .getfield 157), (98, .ifnull 22), (101, .aload 5), (103, .getfield 157), (106, .iload_n 2), (107, .iload_n 3), (108, .iconst 1), (109, .if_icmp .ne 7), (112, .iconst 1), (113, .goto 4), (116, .iconst 0), (117, .invokevirtual 230), (120, .iconst (-1)), (121, .ireturn)]
/-- 29: Desk_get -/
def m_cd29 : List (Nat × Jvm.ClassFile.Instr) := [(0, .aload_n 0), (1, .iload_n 1), (2, .iconst 0), (3, .iload_n 2), (4, .invokevirtual 234), (7, .ifCond .eq 6), (10, .bipush 7), (12, .ireturn), (13, .aload_n 0), (14, .getfield 28), (17, .iload_n 2), (18, .aaload), (19, .getfield 157), (22, .astore_n 3), (23, .aload_n 0), (24, .getfield 37), (27, .iconst 1), (28, .iload_n 1), (29, .aload_n 0), (30, .iload_n 1), (31, .aload_n 3), (32, .invokevirtual 238), (35, .invokevirtual 203), (38, .aload_n 3), (39, .ifnull 10), (42, .aload_n 3), (43, .getfield 241), (46, .iload_n 1), (47, .iconst 1), (48, .bastore), (49, .iconst (-1)), (50, .ireturn)]
/-- 30: Desk_locked -/
def m_cd30 : List (Nat × Jvm.ClassFile.Instr) := [(0, .iconst 0), (1, .istore 4), (3, .iload 4), (5, .iload_n 3), (6, .if_icmp .gt 52), (9, .aload_n 0), (10, .getfield 28), (13, .iload 4), (15, .aaload), (16, .getfield 146), (19, .astore 5), (21, .aload 5), (23, .ifnull 29), (26, .aload 5), (28, .getfield 248), (31, .iload_n 1), (32, .baload), (33, .ifCond .ne 17), (36, .iload_n 2), (37, .ifCond .eq 15), (40, .aload 5), (42, .getfield 241), (45, .iload_n 1), (46, .baload), (47, .ifCond .eq 5), (50, .iconst 1), (51, .ireturn), (52, .iinc 4 1), (55, .goto (-52)), (58, .iconst 0), (59, .ireturn)]
/-- 31: Desk_seen -/
def m_cd31 : List (Nat × Jvm.ClassFile.Instr) := [(0, .aload_n 2), (1, .ifnonnull 12), (4, .aload_n 0), (5, .getfield 22), (8, .iload_n 1), (9, .iaload), (10, .goto 14), (13, .aload_n 2), (14, .iload_n 1), (15, .aload_n 0), (16, .getfield 22), (19, .iload_n 1), (20, .iaload), (21, .invokevirtual 215), (24, .ireturn)]
/-- 32: Tx_seen -/
def m_cd32 : List (Nat × Jvm.ClassFile.Instr) := [(0, .aload_n 0), (1, .getfield 15), (4, .iload_n 1), (5, .baload), (6, .ifCond .eq 12), (9, .aload_n 0), (10, .getfield 9), (13, .iload_n 1), (14, .iaload), (15, .goto 4), (18, .iload_n 2), (19, .ireturn)]
/-- 33: Journal_record -/
def m_cd33 : List (Nat × Jvm.ClassFile.Instr) := [(0, .aload_n 0), (1, .getfield 18), (4, .sipush 128), (7, .if_icmp .ge 28), (10, .aload_n 0), (11, .getfield 9), (14, .aload_n 0), (15, .getfield 18), (18, .bipush 16), (20, .iload_n 2), (21, .imul), (22, .iload_n 1), (23, .iadd), (24, .iastore), (25, .aload_n 0), (26, .getfield 15), (29, .aload_n 0), (30, .getfield 18), (33, .iload_n 3), (34, .iastore), (35, .aload_n 0), (36, .dup), (37, .getfield 18), (40, .iconst 1), (41, .iadd), (42, .putfield 18), (45, .return_)]
/-- 34: Desk_put -/
def m_cd34 : List (Nat × Jvm.ClassFile.Instr) := [(0, .aload_n 0), (1, .iload_n 1), (2, .iconst 1), (3, .iload_n 3), (4, .invokevirtual 234), (7, .ifCond .eq 6), (10, .bipush 7), (12, .ireturn), (13, .aload_n 0), (14, .iload_n 1), (15, .iload_n 2), (16, .aload_n 0), (17, .getfield 28), (20, .iload_n 3), (21, .aaload), (22, .getfield 157), (25, .invokevirtual 244), (28, .iconst (-1)), (29, .ireturn)]
/-- 35: Desk_write -/
def m_cd35 : List (Nat × Jvm.ClassFile.Instr) := [(0, .aload_n 3), (1, .ifnonnull 13), (4, .aload_n 0), (5, .getfield 22), (8, .iload_n 1), (9, .iload_n 2), (10, .iastore), (11, .goto 9), (14, .aload_n 3), (15, .iload_n 1), (16, .iload_n 2), (17, .invokevirtual 251), (20, .aload_n 0), (21, .getfield 37), (24, .iconst 2), (25, .iload_n 1), (26, .iload_n 2), (27, .invokevirtual 203), (30, .return_)]
/-- 36: Tx_write -/
def m_cd36 : List (Nat × Jvm.ClassFile.Instr) := [(0, .aload_n 0), (1, .getfield 9), (4, .iload_n 1), (5, .iload_n 2), (6, .iastore), (7, .aload_n 0), (8, .getfield 15), (11, .iload_n 1), (12, .iconst 1), (13, .bastore), (14, .aload_n 0), (15, .getfield 22), (18, .iload_n 1), (19, .iconst 1), (20, .bastore), (21, .return_)]
/-- 37: Desk_add -/
def m_cd37 : List (Nat × Jvm.ClassFile.Instr) := [(0, .aload_n 0), (1, .iload_n 1), (2, .iconst 1), (3, .iload_n 3), (4, .invokevirtual 234), (7, .ifCond .eq 6), (10, .bipush 7), (12, .ireturn), (13, .aload_n 0), (14, .getfield 28), (17, .iload_n 3), (18, .aaload), (19, .getfield 157), (22, .astore 4), (24, .aload_n 0), (25, .iload_n 1), (26, .aload_n 0), (27, .iload_n 1), (28, .aload 4), (30, .invokevirtual 238), (33, .iload_n 2), (34, .iadd), (35, .aload 4), (37, .invokevirtual 244), (40, .aload 4), (42, .ifnull 11), (45, .aload 4), (47, .getfield 241), (50, .iload_n 1), (51, .iconst 1), (52, .bastore), (53, .iconst (-1)), (54, .ireturn)]
/-- 38: Desk_callAndCatch -/
def m_cd38 : List (Nat × Jvm.ClassFile.Instr) := [(0, .aload_n 0), (1, .iload_n 1), (2, .aload_n 0), (3, .getfield 28), (6, .iload_n 3), (7, .aaload), (8, .getfield 157), (11, .iload_n 3), (12, .iconst 1), (13, .iadd), (14, .invokevirtual 80), (17, .istore 4), (19, .iload 4), (21, .iconst (-1)), (22, .if_icmp .eq 21), (25, .iload_n 2), (26, .iconst (-1)), (27, .if_icmp .eq 16), (30, .aload_n 0), (31, .getfield 10), (34, .iload 4), (36, .iload_n 2), (37, .invokevirtual 87), (40, .ifCond .ne 6), (43, .iload 4), (45, .ireturn), (46, .aload_n 0), (47, .getfield 37), (50, .bipush 8), (52, .iload 4), (54, .iconst 0), (55, .invokevirtual 203), (58, .iconst (-1)), (59, .ireturn)]
/-- 39: Kinds_under -/
def m_cd39 : List (Nat × Jvm.ClassFile.Instr) := [(0, .aload_n 0), (1, .iload_n 1), (2, .iload_n 2), (3, .invokevirtual 32), (6, .iconst (-1)), (7, .if_icmp .eq 7), (10, .iconst 1), (11, .goto 4), (14, .iconst 0), (15, .ireturn)]
/-- 40: Kinds_distance -/
def m_cd40 : List (Nat × Jvm.ClassFile.Instr) := [(0, .iload_n 1), (1, .istore_n 3), (2, .iconst 0), (3, .istore 4), (5, .iload 4), (7, .bipush 16), (9, .if_icmp .ge 34), (12, .aload_n 0), (13, .iload_n 3), (14, .invokevirtual 28), (17, .ifCond .ne 5), (20, .iconst (-1)), (21, .ireturn), (22, .iload_n 3), (23, .iload_n 2), (24, .if_icmp .ne 6), (27, .iload 4), (29, .ireturn), (30, .aload_n 0), (31, .getfield 19), (34, .iload_n 3), (35, .iaload), (36, .istore_n 3), (37, .iinc 4 1), (40, .goto (-35)), (43, .iconst (-1)), (44, .ireturn)]
/-- 41: Tx_addHook -/
def m_cd41 : List (Nat × Jvm.ClassFile.Instr) := [(0, .aload_n 0), (1, .getfield 31), (4, .bipush 8), (6, .if_icmp .lt 4), (9, .return_), (10, .aload_n 0), (11, .getfield 25), (14, .aload_n 0), (15, .getfield 31), (18, .iload_n 1), (19, .iastore), (20, .aload_n 0), (21, .getfield 28), (24, .aload_n 0), (25, .getfield 31), (28, .iload_n 2), (29, .bastore), (30, .aload_n 0), (31, .dup), (32, .getfield 31), (35, .iconst 1), (36, .iadd), (37, .putfield 31), (40, .return_)]
/-- 42: Desk_end -/
def m_cd42 : List (Nat × Jvm.ClassFile.Instr) := [(0, .aload_n 1), (1, .getfield 157), (4, .astore 4), (6, .aload 4), (8, .ifnonnull 5), (11, .iload_n 3), (12, .ireturn), (13, .aload_n 1), (14, .getfield 166), (17, .ifCond .ne 20), (20, .iload_n 3), (21, .iconst (-1)), (22, .if_icmp .eq 19), (25, .aload_n 2), (26, .iload_n 3), (27, .aload_n 0), (28, .getfield 10), (31, .invokevirtual 91), (34, .ifCond .eq 7), (37, .iconst 1), (38, .goto 4), (41, .iconst 0), (42, .istore 5), (44, .aload_n 1), (45, .getfield 154), (48, .lookupswitch 49 #[(2, 28), (3, 39)]), (76, .aload_n 0), (77, .aload_n 1), (78, .aload 4), (80, .iload 5), (82, .iload_n 3), (83, .invokevirtual 170), (86, .ireturn), (87, .aload_n 0), (88, .aload 4), (90, .iload 5), (92, .iload_n 3), (93, .invokevirtual 174), (96, .ireturn), (97, .aload 4), (99, .aload 4), (101, .getfield 178), (104, .ifCond .ne 8), (107, .iload 5), (109, .ifCond .eq 7), (112, .iconst 1), (113, .goto 4), (116, .iconst 0), (117, .putfield 178), (120, .iload_n 3), (121, .ireturn)]
/-- 43: Plan_goesBackFor -/
def m_cd43 : List (Nat × Jvm.ClassFile.Instr) := [(0, .aload_n 2), (1, .iload_n 1), (2, .iconst 3), (3, .invokevirtual 35), (6, .ifCond .ne 12), (9, .aload_n 2), (10, .iload_n 1), (11, .iconst 1), (12, .invokevirtual 35), (15, .ifCond .eq 7), (18, .iconst 1), (19, .goto 4), (22, .iconst 0), (23, .istore_n 3), (24, .bipush 16), (26, .istore 4), (28, .iconst 0), (29, .istore 5), (31, .iload 5), (33, .aload_n 0), (34, .getfield 28), (37, .if_icmp .ge 48), (40, .aload_n 2), (41, .iload_n 1), (42, .aload_n 0), (43, .getfield 9), (46, .iload 5), (48, .iaload), (49, .invokevirtual 41), (52, .istore 6), (54, .iload 6), (56, .iconst (-1)), (57, .if_icmp .eq 22), (60, .iload 6), (62, .iload 4), (64, .if_icmp .ge 15), (67, .iload 6), (69, .istore 4), (71, .aload_n 0), (72, .getfield 15), (75, .iload 5), (77, .baload), (78, .istore_n 3), (79, .iinc 5 1), (82, .goto (-51)), (85, .iload_n 3), (86, .ireturn)]
/-- 44: Desk_endMarked -/
def m_cd44 : List (Nat × Jvm.ClassFile.Instr) := [(0, .aload_n 2), (1, .getfield 178), (4, .ifCond .eq 14), (7, .aload_n 1), (8, .getfield 181), (11, .ifCond .ne 7), (14, .iconst 1), (15, .goto 4), (18, .iconst 0), (19, .istore 5), (21, .iload_n 3), (22, .ifCond .ne 11), (25, .iload 5), (27, .ifCond .ne 6), (30, .iload 4), (32, .ireturn), (33, .aload_n 1), (34, .aload_n 2), (35, .invokevirtual 184), (38, .aload_n 0), (39, .getfield 41), (42, .iconst 3), (43, .dup2), (44, .iaload), (45, .iconst 1), (46, .iadd), (47, .iastore), (48, .iload_n 3), (49, .ifCond .eq 8), (52, .iload 4), (54, .goto 5), (57, .bipush 6), (59, .ireturn)]
/-- 45: Frame_restore -/
def m_cd45 : List (Nat × Jvm.ClassFile.Instr) := [(0, .aload_n 1), (1, .aload_n 0), (2, .getfield 43), (5, .putfield 40), (8, .iconst 0), (9, .istore_n 2), (10, .iload_n 2), (11, .iconst 4), (12, .if_icmp .ge 33), (15, .aload_n 1), (16, .getfield 46), (19, .iload_n 2), (20, .aload_n 0), (21, .getfield 18), (24, .iload_n 2), (25, .iaload), (26, .iastore), (27, .aload_n 1), (28, .getfield 49), (31, .iload_n 2), (32, .aload_n 0), (33, .getfield 22), (36, .iload_n 2), (37, .baload), (38, .bastore), (39, .iinc 2 1), (42, .goto (-32)), (45, .return_)]
/-- 46: Desk_endBegun -/
def m_cd46 : List (Nat × Jvm.ClassFile.Instr) := [(0, .iload_n 2), (1, .ifCond .eq 7), (4, .iconst (-1)), (5, .goto 8), (8, .aload_n 0), (9, .aload_n 1), (10, .invokevirtual 187), (13, .istore 4), (15, .iload_n 2), (16, .ifCond .ne 16), (19, .iload 4), (21, .iconst (-1)), (22, .if_icmp .ne 10), (25, .aload_n 0), (26, .aload_n 1), (27, .invokevirtual 191), (30, .iload_n 3), (31, .ireturn), (32, .aload_n 0), (33, .aload_n 1), (34, .invokevirtual 194), (37, .iload_n 2), (38, .ifCond .eq 7), (41, .iload_n 3), (42, .goto 5), (45, .iload 4), (47, .ireturn)]
/-- 47: Desk_refusalToCommit -/
def m_cd47 : List (Nat × Jvm.ClassFile.Instr) := [(0, .aload_n 1), (1, .getfield 178), (4, .ifCond .eq 6), (7, .bipush 6), (9, .ireturn), (10, .iconst 0), (11, .istore_n 2), (12, .iload_n 2), (13, .aload_n 1), (14, .getfield 197), (17, .if_icmp .ge 36), (20, .aload_n 0), (21, .getfield 37), (24, .iconst 3), (25, .aload_n 1), (26, .getfield 200), (29, .iload_n 2), (30, .iaload), (31, .iconst 0), (32, .invokevirtual 203), (35, .aload_n 1), (36, .getfield 207), (39, .iload_n 2), (40, .baload), (41, .ifCond .eq 6), (44, .bipush 8), (46, .ireturn), (47, .iinc 2 1), (50, .goto (-38)), (53, .iconst (-1)), (54, .ireturn)]
/-- 48: Desk_commit -/
def m_cd48 : List (Nat × Jvm.ClassFile.Instr) := [(0, .aload_n 0), (1, .aload_n 1), (2, .iconst 4), (3, .invokevirtual 211), (6, .iconst 0), (7, .istore_n 2), (8, .iload_n 2), (9, .iconst 4), (10, .if_icmp .ge 26), (13, .aload_n 0), (14, .getfield 22), (17, .iload_n 2), (18, .aload_n 1), (19, .iload_n 2), (20, .aload_n 0), (21, .getfield 22), (24, .iload_n 2), (25, .iaload), (26, .invokevirtual 215), (29, .iastore), (30, .iinc 2 1), (33, .goto (-25)), (36, .aload_n 0), (37, .getfield 37), (40, .bipush 9), (42, .iconst 0), (43, .iconst 0), (44, .invokevirtual 203), (47, .aload_n 0), (48, .getfield 41), (51, .iconst 1), (52, .dup2), (53, .iaload), (54, .iconst 1), (55, .iadd), (56, .iastore), (57, .aload_n 0), (58, .aload_n 1), (59, .iconst 5), (60, .invokevirtual 211), (63, .aload_n 0), (64, .aload_n 1), (65, .bipush 7), (67, .invokevirtual 211), (70, .return_)]
/-- 49: Desk_tellHooks -/
def m_cd49 : List (Nat × Jvm.ClassFile.Instr) := [(0, .iconst 0), (1, .istore_n 3), (2, .iload_n 3), (3, .aload_n 1), (4, .getfield 197), (7, .if_icmp .ge 24), (10, .aload_n 0), (11, .getfield 37), (14, .iload_n 2), (15, .aload_n 1), (16, .getfield 200), (19, .iload_n 3), (20, .iaload), (21, .iconst 0), (22, .invokevirtual 203), (25, .iinc 3 1), (28, .goto (-26)), (31, .return_)]
/-- 50: Desk_rollBack -/
def m_cd50 : List (Nat × Jvm.ClassFile.Instr) := [(0, .aload_n 0), (1, .aload_n 1), (2, .iconst 4), (3, .invokevirtual 211), (6, .aload_n 0), (7, .getfield 37), (10, .bipush 10), (12, .iconst 0), (13, .iconst 0), (14, .invokevirtual 203), (17, .aload_n 0), (18, .getfield 41), (21, .iconst 2), (22, .dup2), (23, .iaload), (24, .iconst 1), (25, .iadd), (26, .iastore), (27, .aload_n 0), (28, .aload_n 1), (29, .bipush 6), (31, .invokevirtual 211), (34, .return_)]
/-- 51: Desk_set -/
def m_cd51 : List (Nat × Jvm.ClassFile.Instr) := [(0, .iload_n 1), (1, .invokestatic 84), (4, .ifCond .ne 5), (7, .iconst 0), (8, .ireturn), (9, .aload_n 0), (10, .getfield 22), (13, .iload_n 1), (14, .iload_n 2), (15, .iastore), (16, .iconst 1), (17, .ireturn)]
/-- 52: Desk_value -/
def m_cd52 : List (Nat × Jvm.ClassFile.Instr) := [(0, .iload_n 1), (1, .invokestatic 84), (4, .ifCond .eq 12), (7, .aload_n 0), (8, .getfield 22), (11, .iload_n 1), (12, .iaload), (13, .goto 4), (16, .iconst 0), (17, .ireturn)]
/-- 53: Desk_is -/
def m_cd53 : List (Nat × Jvm.ClassFile.Instr) := [(0, .aload_n 0), (1, .getfield 10), (4, .iload_n 1), (5, .iload_n 2), (6, .invokevirtual 87), (9, .ireturn)]
/-- 54: Desk_rolls -/
def m_cd54 : List (Nat × Jvm.ClassFile.Instr) := [(0, .aload_n 0), (1, .iload_n 1), (2, .invokevirtual 59), (5, .ifCond .eq 35), (8, .aload_n 0), (9, .getfield 10), (12, .iload_n 2), (13, .invokevirtual 44), (16, .ifCond .eq 24), (19, .aload_n 0), (20, .getfield 18), (23, .iload_n 1), (24, .aaload), (25, .iload_n 2), (26, .aload_n 0), (27, .getfield 10), (30, .invokevirtual 91), (33, .ifCond .eq 7), (36, .iconst 1), (37, .goto 4), (40, .iconst 0), (41, .ireturn)]
/-- 55: Desk_events -/
def m_cd55 : List (Nat × Jvm.ClassFile.Instr) := [(0, .aload_n 0), (1, .getfield 37), (4, .getfield 95), (7, .ireturn)]
/-- 56: Desk_event -/
def m_cd56 : List (Nat × Jvm.ClassFile.Instr) := [(0, .aload_n 0), (1, .getfield 37), (4, .iload_n 1), (5, .invokevirtual 98), (8, .ifCond .eq 15), (11, .aload_n 0), (12, .getfield 37), (15, .getfield 101), (18, .iload_n 1), (19, .iaload), (20, .goto 4), (23, .iconst (-1)), (24, .ireturn)]
/-- 57: Journal_keeps -/
def m_cd57 : List (Nat × Jvm.ClassFile.Instr) := [(0, .iload_n 1), (1, .ifCond .lt 22), (4, .iload_n 1), (5, .aload_n 0), (6, .getfield 18), (9, .if_icmp .ge 14), (12, .iload_n 1), (13, .sipush 128), (16, .if_icmp .ge 7), (19, .iconst 1), (20, .goto 4), (23, .iconst 0), (24, .ireturn)]
/-- 58: Desk_amount -/
def m_cd58 : List (Nat × Jvm.ClassFile.Instr) := [(0, .aload_n 0), (1, .getfield 37), (4, .iload_n 1), (5, .invokevirtual 98), (8, .ifCond .eq 15), (11, .aload_n 0), (12, .getfield 37), (15, .getfield 104), (18, .iload_n 1), (19, .iaload), (20, .goto 4), (23, .iconst 0), (24, .ireturn)]
/-- 59: Desk_calls -/
def m_cd59 : List (Nat × Jvm.ClassFile.Instr) := [(0, .aload_n 0), (1, .getfield 77), (4, .ireturn)]
/-- 60: Desk_count -/
def m_cd60 : List (Nat × Jvm.ClassFile.Instr) := [(0, .iload_n 1), (1, .ifCond .lt 17), (4, .iload_n 1), (5, .iconst 4), (6, .if_icmp .ge 12), (9, .aload_n 0), (10, .getfield 41), (13, .iload_n 1), (14, .iaload), (15, .goto 4), (18, .iconst (-1)), (19, .ireturn)]
/-- 61: Desk_size -/
def m_cd61 : List (Nat × Jvm.ClassFile.Instr) := [(0, .iload_n 1), (1, .lookupswitch 40 #[(0, 27), (1, 35)]), (28, .aload_n 0), (29, .getfield 10), (32, .getfield 107), (35, .ireturn), (36, .aload_n 0), (37, .getfield 52), (40, .ireturn), (41, .iconst (-1)), (42, .ireturn)]
/-- 62: Model_init -/
def m_cd62 : List (Nat × Jvm.ClassFile.Instr) := [(0, .aload_n 0), (1, .invokespecial 1), (4, .aload_n 0), (5, .bipush 10), (7, .putfield 7), (10, .aload_n 0), (11, .bipush 16), (13, .newarray .int), (15, .putfield 13), (18, .aload_n 0), (19, .bipush 10), (21, .newarray .int), (23, .putfield 17), (26, .aload_n 0), (27, .bipush 10), (29, .newarray .int), (31, .putfield 20), (34, .aload_n 0), (35, .bipush 30), (37, .newarray .int), (39, .putfield 23), (42, .aload_n 0), (43, .bipush 30), (45, .newarray .boolean), (47, .putfield 26), (50, .aload_n 0), (51, .bipush 10), (53, .newarray .int), (55, .putfield 30), (58, .aload_n 0), (59, .bipush 80), (61, .newarray .int), (63, .putfield 33), (66, .aload_n 0), (67, .bipush 80), (69, .newarray .int), (71, .putfield 36), (74, .aload_n 0), (75, .bipush 80), (77, .newarray .int), (79, .putfield 39), (82, .aload_n 0), (83, .iconst 4), (84, .newarray .int), (86, .putfield 42), (89, .aload_n 0), (90, .iconst 4), (91, .newarray .int), (93, .putfield 45), (96, .aload_n 0), (97, .sipush 128), (100, .newarray .int), (102, .putfield 48), (105, .aload_n 0), (106, .sipush 128), (109, .newarray .int), (111, .putfield 51), (114, .aload_n 0), (115, .bipush 10), (117, .newarray .int), (119, .putfield 54), (122, .aload_n 0), (123, .bipush 10), (125, .newarray .int), (127, .putfield 57), (130, .aload_n 0), (131, .bipush 10), (133, .newarray .int), (135, .putfield 60), (138, .aload_n 0), (139, .bipush 10), (141, .newarray .int), (143, .putfield 63), (146, .aload_n 0), (147, .bipush 10), (149, .newarray .int), (151, .putfield 66), (154, .aload_n 0), (155, .bipush 10), (157, .newarray .boolean), (159, .putfield 69), (162, .aload_n 0), (163, .bipush 40), (165, .newarray .boolean), (167, .putfield 72), (170, .aload_n 0), (171, .bipush 40), (173, .newarray .int), (175, .putfield 75), (178, .aload_n 0), (179, .bipush 10), (181, .newarray .boolean), (183, .putfield 78), (186, .aload_n 0), (187, .bipush 40), (189, .newarray .boolean), (191, .putfield 81), (194, .aload_n 0), (195, .bipush 40), (197, .newarray .int), (199, .putfield 84), (202, .aload_n 0), (203, .bipush 40), (205, .newarray .boolean), (207, .putfield 87), (210, .aload_n 0), (211, .bipush 40), (213, .newarray .boolean), (215, .putfield 90), (218, .aload_n 0), (219, .bipush 10), (221, .newarray .boolean), (223, .putfield 93), (226, .aload_n 0), (227, .bipush 10), (229, .newarray .int), (231, .putfield 96), (234, .aload_n 0), (235, .bipush 80), (237, .newarray .int), (239, .putfield 99), (242, .aload_n 0), (243, .bipush 80), (245, .newarray .boolean), (247, .putfield 102), (250, .aload_n 0), (251, .getfield 13), (254, .iconst 0), (255, .iconst (-1)), (256, .iastore), (257, .aload_n 0), (258, .getfield 13), (261, .iconst 1), (262, .iconst 0), (263, .iastore), (264, .aload_n 0), (265, .getfield 13), (268, .iconst 2), (269, .iconst 0), (270, .iastore), (271, .aload_n 0), (272, .getfield 13), (275, .iconst 3), (276, .iconst 2), (277, .iastore), (278, .iconst 4), (279, .istore_n 1), (280, .iload_n 1), (281, .bipush 9), (283, .if_icmp .ge 16), (286, .aload_n 0), (287, .getfield 13), (290, .iload_n 1), (291, .iconst 3), (292, .iastore), (293, .iinc 1 1), (296, .goto (-16)), (299, .aload_n 0), (300, .getfield 13), (303, .bipush 9), (305, .iconst 1), (306, .iastore), (307, .return_)]
/-- 63: Model_kind -/
def m_cd63 : List (Nat × Jvm.ClassFile.Instr) := [(0, .aload_n 0), (1, .iload_n 1), (2, .invokevirtual 108), (5, .ifCond .eq 12), (8, .aload_n 0), (9, .getfield 7), (12, .bipush 16), (14, .if_icmp .ne 5), (17, .iconst (-1)), (18, .ireturn), (19, .aload_n 0), (20, .getfield 13), (23, .aload_n 0), (24, .getfield 7), (27, .iload_n 1), (28, .iastore), (29, .aload_n 0), (30, .dup), (31, .getfield 7), (34, .iconst 1), (35, .iadd), (36, .putfield 7), (39, .aload_n 0), (40, .getfield 7), (43, .iconst 1), (44, .isub), (45, .ireturn)]
/-- 64: Model_isClass -/
def m_cd64 : List (Nat × Jvm.ClassFile.Instr) := [(0, .iload_n 1), (1, .ifCond .lt 15), (4, .iload_n 1), (5, .aload_n 0), (6, .getfield 7), (9, .if_icmp .ge 7), (12, .iconst 1), (13, .goto 4), (16, .iconst 0), (17, .ireturn)]
/-- 65: Model_method -/
def m_cd65 : List (Nat × Jvm.ClassFile.Instr) := [(0, .iload_n 1), (1, .ifCond .lt 18), (4, .iload_n 1), (5, .bipush 6), (7, .if_icmp .gt 12), (10, .aload_n 0), (11, .getfield 105), (14, .bipush 10), (16, .if_icmp .ne 5), (19, .iconst (-1)), (20, .ireturn), (21, .aload_n 0), (22, .getfield 17), (25, .aload_n 0), (26, .getfield 105), (29, .iload_n 1), (30, .iastore), (31, .aload_n 0), (32, .dup), (33, .getfield 105), (36, .iconst 1), (37, .iadd), (38, .putfield 105), (41, .aload_n 0), (42, .getfield 105), (45, .iconst 1), (46, .isub), (47, .ireturn)]
/-- 66: Model_rule -/
def m_cd66 : List (Nat × Jvm.ClassFile.Instr) := [(0, .aload_n 0), (1, .iload_n 1), (2, .invokevirtual 112), (5, .ifCond .eq 21), (8, .aload_n 0), (9, .iload_n 2), (10, .invokevirtual 108), (13, .ifCond .eq 13), (16, .aload_n 0), (17, .getfield 20), (20, .iload_n 1), (21, .iaload), (22, .iconst 3), (23, .if_icmp .ne 5), (26, .iconst 0), (27, .ireturn), (28, .aload_n 0), (29, .getfield 23), (32, .iconst 3), (33, .iload_n 1), (34, .imul), (35, .aload_n 0), (36, .getfield 20), (39, .iload_n 1), (40, .iaload), (41, .iadd), (42, .iload_n 2), (43, .iastore), (44, .aload_n 0), (45, .getfield 26), (48, .iconst 3), (49, .iload_n 1), (50, .imul), (51, .aload_n 0), (52, .getfield 20), (55, .iload_n 1), (56, .iaload), (57, .iadd), (58, .iload_n 3), (59, .bastore), (60, .aload_n 0), (61, .getfield 20), (64, .iload_n 1), (65, .dup2), (66, .iaload), (67, .iconst 1), (68, .iadd), (69, .iastore), (70, .iconst 1), (71, .ireturn)]
/-- 67: Model_isMethod -/
def m_cd67 : List (Nat × Jvm.ClassFile.Instr) := [(0, .iload_n 1), (1, .ifCond .lt 15), (4, .iload_n 1), (5, .aload_n 0), (6, .getfield 105), (9, .if_icmp .ge 7), (12, .iconst 1), (13, .goto 4), (16, .iconst 0), (17, .ireturn)]
/-- 68: Model_step -/
def m_cd68 : List (Nat × Jvm.ClassFile.Instr) := [(0, .aload_n 0), (1, .iload_n 1), (2, .invokevirtual 112), (5, .ifCond .eq 26), (8, .aload_n 0), (9, .iload_n 1), (10, .iload_n 2), (11, .iload_n 3), (12, .iload 4), (14, .invokevirtual 115), (17, .ifCond .eq 14), (20, .aload_n 0), (21, .getfield 30), (24, .iload_n 1), (25, .iaload), (26, .bipush 8), (28, .if_icmp .ne 5), (31, .iconst (-1)), (32, .ireturn), (33, .bipush 8), (35, .iload_n 1), (36, .imul), (37, .aload_n 0), (38, .getfield 30), (41, .iload_n 1), (42, .iaload), (43, .iadd), (44, .istore 5), (46, .aload_n 0), (47, .getfield 33), (50, .iload 5), (52, .iload_n 2), (53, .iastore), (54, .aload_n 0), (55, .getfield 36), (58, .iload 5), (60, .iload_n 3), (61, .iastore), (62, .aload_n 0), (63, .getfield 39), (66, .iload 5), (68, .iload 4), (70, .iastore), (71, .aload_n 0), (72, .getfield 30), (75, .iload_n 1), (76, .dup2), (77, .iaload), (78, .iconst 1), (79, .iadd), (80, .iastore), (81, .aload_n 0), (82, .getfield 30), (85, .iload_n 1), (86, .iaload), (87, .ireturn)]
/-- 69: Model_asSaid -/
def m_cd69 : List (Nat × Jvm.ClassFile.Instr) := [(0, .iload_n 2), (1, .tableswitch 123 0 6 #[43, 43, 43, 58, 88, 94, 96]), (44, .iload_n 3), (45, .ifCond .lt 12), (48, .iload_n 3), (49, .iconst 4), (50, .if_icmp .ge 7), (53, .iconst 1), (54, .goto 4), (57, .iconst 0), (58, .ireturn), (59, .iload_n 3), (60, .ifCond .lt 27), (63, .iload_n 3), (64, .iload_n 1), (65, .if_icmp .ge 22), (68, .iload 4), (70, .iconst (-1)), (71, .if_icmp .eq 12), (74, .aload_n 0), (75, .iload 4), (77, .invokevirtual 108), (80, .ifCond .eq 7), (83, .iconst 1), (84, .goto 4), (87, .iconst 0), (88, .ireturn), (89, .aload_n 0), (90, .iload_n 3), (91, .invokevirtual 108), (94, .ireturn), (95, .iconst 1), (96, .ireturn), (97, .iload_n 3), (98, .ifCond .lt 24), (101, .iload_n 3), (102, .bipush 10), (104, .if_icmp .ge 18), (107, .iload 4), (109, .ifCond .eq 9), (112, .iload 4), (114, .iconst 1), (115, .if_icmp .ne 7), (118, .iconst 1), (119, .goto 4), (122, .iconst 0), (123, .ireturn), (124, .iconst 0), (125, .ireturn)]
/-- 70: Model_is -/
def m_cd70 : List (Nat × Jvm.ClassFile.Instr) := [(0, .aload_n 0), (1, .iload_n 1), (2, .invokevirtual 108), (5, .ifCond .eq 24), (8, .aload_n 0), (9, .iload_n 2), (10, .invokevirtual 108), (13, .ifCond .eq 16), (16, .aload_n 0), (17, .iload_n 1), (18, .iload_n 2), (19, .invokevirtual 119), (22, .ifCond .lt 7), (25, .iconst 1), (26, .goto 4), (29, .iconst 0), (30, .ireturn)]
/-- 71: Model_distance -/
def m_cd71 : List (Nat × Jvm.ClassFile.Instr) := [(0, .iload_n 1), (1, .istore_n 3), (2, .iconst 0), (3, .istore 4), (5, .iload 4), (7, .bipush 16), (9, .if_icmp .ge 28), (12, .iload_n 3), (13, .ifCond .lt 24), (16, .iload_n 3), (17, .iload_n 2), (18, .if_icmp .ne 6), (21, .iload 4), (23, .ireturn), (24, .aload_n 0), (25, .getfield 13), (28, .iload_n 3), (29, .iaload), (30, .istore_n 3), (31, .iinc 4 1), (34, .goto (-29)), (37, .iconst (-1)), (38, .ireturn)]
/-- 72: Model_rolls -/
def m_cd72 : List (Nat × Jvm.ClassFile.Instr) := [(0, .aload_n 0), (1, .iload_n 1), (2, .invokevirtual 112), (5, .ifCond .eq 24), (8, .aload_n 0), (9, .iload_n 2), (10, .invokevirtual 108), (13, .ifCond .eq 16), (16, .aload_n 0), (17, .iload_n 1), (18, .iload_n 2), (19, .invokevirtual 123), (22, .ifCond .eq 7), (25, .iconst 1), (26, .goto 4), (29, .iconst 0), (30, .ireturn)]
/-- 73: Model_goesBack -/
def m_cd73 : List (Nat × Jvm.ClassFile.Instr) := [(0, .bipush 99), (2, .istore_n 3), (3, .aload_n 0), (4, .iload_n 2), (5, .iconst 3), (6, .invokevirtual 119), (9, .ifCond .ge 12), (12, .aload_n 0), (13, .iload_n 2), (14, .iconst 1), (15, .invokevirtual 119), (18, .ifCond .lt 7), (21, .iconst 1), (22, .goto 4), (25, .iconst 0), (26, .istore 4), (28, .iconst 3), (29, .iload_n 1), (30, .imul), (31, .istore 5), (33, .iload 5), (35, .iconst 3), (36, .iload_n 1), (37, .imul), (38, .aload_n 0), (39, .getfield 20), (42, .iload_n 1), (43, .iaload), (44, .iadd), (45, .if_icmp .ge 46), (48, .aload_n 0), (49, .iload_n 2), (50, .aload_n 0), (51, .getfield 23), (54, .iload 5), (56, .iaload), (57, .invokevirtual 119), (60, .istore 6), (62, .iload 6), (64, .ifCond .lt 21), (67, .iload 6), (69, .iload_n 3), (70, .if_icmp .ge 15), (73, .iload 6), (75, .istore_n 3), (76, .aload_n 0), (77, .getfield 26), (80, .iload 5), (82, .baload), (83, .istore 4), (85, .iinc 5 1), (88, .goto (-55)), (91, .iload 4), (93, .ireturn)]
/-- 74: Model_invoke -/
def m_cd74 : List (Nat × Jvm.ClassFile.Instr) := [(0, .aload_n 0), (1, .iload_n 1), (2, .invokevirtual 112), (5, .ifCond .ne 5), (8, .iconst (-1)), (9, .ireturn), (10, .aload_n 0), (11, .iconst 0), (12, .putfield 145), (15, .aload_n 0), (16, .iconst 0), (17, .putfield 127), (20, .aload_n 0), (21, .iconst (-1)), (22, .putfield 148), (25, .aload_n 0), (26, .iconst (-1)), (27, .putfield 142), (30, .aload_n 0), (31, .aload_n 0), (32, .iload_n 1), (33, .invokevirtual 173), (36, .putfield 170), (39, .iconst 0), (40, .istore_n 2), (41, .iload_n 2), (42, .sipush 2000), (45, .if_icmp .ge 65), (48, .aload_n 0), (49, .getfield 148), (52, .ifCond .lt 58), (55, .aload_n 0), (56, .getfield 60), (59, .aload_n 0), (60, .getfield 148), (63, .iaload), (64, .ifCond .ge 36), (67, .aload_n 0), (68, .getfield 57), (71, .aload_n 0), (72, .getfield 148), (75, .iaload), (76, .aload_n 0), (77, .getfield 30), (80, .aload_n 0), (81, .getfield 54), (84, .aload_n 0), (85, .getfield 148), (88, .iaload), (89, .iaload), (90, .if_icmp .ge 10), (93, .aload_n 0), (94, .invokevirtual 193), (97, .goto 7), (100, .aload_n 0), (101, .invokevirtual 196), (104, .iinc 2 1), (107, .goto (-66)), (110, .aload_n 0), (111, .getfield 170), (114, .iconst 1), (115, .iadd), (116, .ireturn)]
/-- 75: Model_enter -/
def m_cd75 : List (Nat × Jvm.ClassFile.Instr) := [(0, .aload_n 0), (1, .getfield 145), (4, .bipush 60), (6, .if_icmp .ne 6), (9, .bipush 9), (11, .ireturn), (12, .aload_n 0), (13, .dup), (14, .getfield 145), (17, .iconst 1), (18, .iadd), (19, .putfield 145), (22, .aload_n 0), (23, .getfield 17), (26, .iload_n 1), (27, .iaload), (28, .istore_n 2), (29, .aload_n 0), (30, .getfield 142), (33, .ifCond .lt 11), (36, .iload_n 2), (37, .bipush 6), (39, .if_icmp .ne 5), (42, .iconst 5), (43, .ireturn), (44, .aload_n 0), (45, .getfield 142), (48, .ifCond .ge 10), (51, .iload_n 2), (52, .iconst 5), (53, .if_icmp .ne 5), (56, .iconst 4), (57, .ireturn), (58, .aload_n 0), (59, .dup), (60, .getfield 148), (63, .iconst 1), (64, .iadd), (65, .putfield 148), (68, .aload_n 0), (69, .getfield 148), (72, .istore_n 3), (73, .aload_n 0), (74, .getfield 54), (77, .iload_n 3), (78, .iload_n 1), (79, .iastore), (80, .aload_n 0), (81, .getfield 57), (84, .iload_n 3), (85, .iconst 0), (86, .iastore), (87, .aload_n 0), (88, .getfield 60), (91, .iload_n 3), (92, .iconst (-1)), (93, .iastore), (94, .aload_n 0), (95, .getfield 69), (98, .iload_n 3), (99, .iconst 0), (100, .bastore), (101, .aload_n 0), (102, .getfield 66), (105, .iload_n 3), (106, .iconst (-1)), (107, .iastore), (108, .aload_n 0), (109, .getfield 63), (112, .iload_n 3), (113, .iconst 0), (114, .iastore), (115, .aload_n 0), (116, .getfield 142), (119, .ifCond .ge 15), (122, .iload_n 2), (123, .iconst 2), (124, .if_icmp .gt 8), (127, .aload_n 0), (128, .iload_n 3), (129, .invokevirtual 151), (132, .iconst (-1)), (133, .ireturn), (134, .iload_n 2), (135, .iconst 1), (136, .if_icmp .eq 8), (139, .iload_n 2), (140, .iconst 4), (141, .if_icmp .ne 18), (144, .aload_n 0), (145, .getfield 66), (148, .iload_n 3), (149, .aload_n 0), (150, .getfield 142), (153, .iastore), (154, .aload_n 0), (155, .iconst (-1)), (156, .putfield 142), (159, .iload_n 2), (160, .iconst 1), (161, .if_icmp .ne 11), (164, .aload_n 0), (165, .iload_n 3), (166, .invokevirtual 151), (169, .goto 28), (172, .iload_n 2), (173, .iconst 2), (174, .if_icmp .ne 11), (177, .aload_n 0), (178, .iload_n 3), (179, .invokevirtual 154), (182, .goto 15), (185, .iload_n 2), (186, .iconst 4), (187, .if_icmp .eq 10), (190, .aload_n 0), (191, .getfield 63), (194, .iload_n 3), (195, .iconst 1), (196, .iastore), (197, .iconst (-1)), (198, .ireturn)]
/-- 76: Model_begin -/
def m_cd76 : List (Nat × Jvm.ClassFile.Instr) := [(0, .iconst 0), (1, .istore_n 2), (2, .iload_n 2), (3, .iconst 4), (4, .if_icmp .ge 42), (7, .aload_n 0), (8, .getfield 81), (11, .iconst 4), (12, .iload_n 1), (13, .imul), (14, .iload_n 2), (15, .iadd), (16, .iconst 0), (17, .bastore), (18, .aload_n 0), (19, .getfield 87), (22, .iconst 4), (23, .iload_n 1), (24, .imul), (25, .iload_n 2), (26, .iadd), (27, .iconst 0), (28, .bastore), (29, .aload_n 0), (30, .getfield 90), (33, .iconst 4), (34, .iload_n 1), (35, .imul), (36, .iload_n 2), (37, .iadd), (38, .iconst 0), (39, .bastore), (40, .iinc 2 1), (43, .goto (-41)), (46, .aload_n 0), (47, .getfield 93), (50, .iload_n 1), (51, .iconst 0), (52, .bastore), (53, .aload_n 0), (54, .getfield 96), (57, .iload_n 1), (58, .iconst 0), (59, .iastore), (60, .aload_n 0), (61, .getfield 45), (64, .iconst 0), (65, .dup2), (66, .iaload), (67, .iconst 1), (68, .iadd), (69, .iastore), (70, .aload_n 0), (71, .iload_n 1), (72, .putfield 142), (75, .aload_n 0), (76, .getfield 63), (79, .iload_n 1), (80, .iconst 3), (81, .iastore), (82, .return_)]
/-- 77: Model_mark -/
def m_cd77 : List (Nat × Jvm.ClassFile.Instr) := [(0, .iconst 0), (1, .istore_n 2), (2, .iload_n 2), (3, .iconst 4), (4, .if_icmp .ge 55), (7, .aload_n 0), (8, .getfield 72), (11, .iconst 4), (12, .iload_n 1), (13, .imul), (14, .iload_n 2), (15, .iadd), (16, .aload_n 0), (17, .getfield 81), (20, .iconst 4), (21, .aload_n 0), (22, .getfield 142), (25, .imul), (26, .iload_n 2), (27, .iadd), (28, .baload), (29, .bastore), (30, .aload_n 0), (31, .getfield 75), (34, .iconst 4), (35, .iload_n 1), (36, .imul), (37, .iload_n 2), (38, .iadd), (39, .aload_n 0), (40, .getfield 84), (43, .iconst 4), (44, .aload_n 0), (45, .getfield 142), (48, .imul), (49, .iload_n 2), (50, .iadd), (51, .iaload), (52, .iastore), (53, .iinc 2 1), (56, .goto (-54)), (59, .aload_n 0), (60, .getfield 78), (63, .iload_n 1), (64, .aload_n 0), (65, .getfield 93), (68, .aload_n 0), (69, .getfield 142), (72, .baload), (73, .bastore), (74, .aload_n 0), (75, .getfield 63), (78, .iload_n 1), (79, .iconst 2), (80, .iastore), (81, .return_)]
/-- 78: Model_doStep -/
def m_cd78 : List (Nat × Jvm.ClassFile.Instr) := [(0, .aload_n 0), (1, .getfield 148), (4, .istore_n 1), (5, .bipush 8), (7, .aload_n 0), (8, .getfield 54), (11, .iload_n 1), (12, .iaload), (13, .imul), (14, .aload_n 0), (15, .getfield 57), (18, .iload_n 1), (19, .iaload), (20, .iadd), (21, .istore_n 2), (22, .aload_n 0), (23, .getfield 36), (26, .iload_n 2), (27, .iaload), (28, .istore_n 3), (29, .aload_n 0), (30, .getfield 39), (33, .iload_n 2), (34, .iaload), (35, .istore 4), (37, .aload_n 0), (38, .getfield 33), (41, .iload_n 2), (42, .iaload), (43, .istore 5), (45, .iload 5), (47, .iconst 3), (48, .if_icmp .ne 22), (51, .aload_n 0), (52, .iload_n 3), (53, .invokevirtual 173), (56, .istore 6), (58, .iload 6), (60, .ifCond .lt 9), (63, .aload_n 0), (64, .iload 6), (66, .invokevirtual 167), (69, .return_), (70, .iload 5), (72, .iconst 3), (73, .if_icmp .ge 30), (76, .aload_n 0), (77, .iload_n 3), (78, .iload 5), (80, .ifCond .le 7), (83, .iconst 1), (84, .goto 4), (87, .iconst 0), (88, .invokevirtual 177), (91, .ifCond .eq 12), (94, .aload_n 0), (95, .getfield 60), (98, .iload_n 1), (99, .bipush 7), (101, .iastore), (102, .return_), (103, .iload 5), (105, .tableswitch 109 0 5 #[39, 58, 68, 109, 89, 99]), (144, .aload_n 0), (145, .iload_n 3), (146, .invokevirtual 181), (149, .aload_n 0), (150, .iconst 1), (151, .iload_n 3), (152, .aload_n 0), (153, .iload_n 3), (154, .invokevirtual 184), (157, .invokevirtual 130), (160, .goto 61), (163, .aload_n 0), (164, .iload_n 3), (165, .iload 4), (167, .invokevirtual 187), (170, .goto 51), (173, .aload_n 0), (174, .iload_n 3), (175, .invokevirtual 181), (178, .aload_n 0), (179, .iload_n 3), (180, .aload_n 0), (181, .iload_n 3), (182, .invokevirtual 184), (185, .iload 4), (187, .iadd), (188, .invokevirtual 187), (191, .goto 30), (194, .aload_n 0), (195, .getfield 60), (198, .iload_n 1), (199, .iload_n 3), (200, .iastore), (201, .goto 20), (204, .aload_n 0), (205, .getfield 69), (208, .iload_n 1), (209, .iconst 1), (210, .bastore), (211, .goto 10), (214, .aload_n 0), (215, .iload_n 3), (216, .iload 4), (218, .invokevirtual 190), (221, .aload_n 0), (222, .getfield 57), (225, .iload_n 1), (226, .dup2), (227, .iaload), (228, .iconst 1), (229, .iadd), (230, .iastore), (231, .return_)]
/-- 79: Model_arrive -/
def m_cd79 : List (Nat × Jvm.ClassFile.Instr) := [(0, .aload_n 0), (1, .getfield 148), (4, .istore_n 2), (5, .aload_n 0), (6, .getfield 39), (9, .bipush 8), (11, .aload_n 0), (12, .getfield 54), (15, .iload_n 2), (16, .iaload), (17, .imul), (18, .aload_n 0), (19, .getfield 57), (22, .iload_n 2), (23, .iaload), (24, .iadd), (25, .iaload), (26, .istore_n 3), (27, .iload_n 1), (28, .ifCond .lt 37), (31, .iload_n 3), (32, .ifCond .lt 33), (35, .aload_n 0), (36, .iload_n 1), (37, .iload_n 3), (38, .invokevirtual 119), (41, .ifCond .lt 24), (44, .aload_n 0), (45, .bipush 8), (47, .iload_n 1), (48, .iconst 0), (49, .invokevirtual 130), (52, .aload_n 0), (53, .getfield 57), (56, .iload_n 2), (57, .dup2), (58, .iaload), (59, .iconst 1), (60, .iadd), (61, .iastore), (62, .goto 27), (65, .iload_n 1), (66, .ifCond .lt 13), (69, .aload_n 0), (70, .getfield 60), (73, .iload_n 2), (74, .iload_n 1), (75, .iastore), (76, .goto 13), (79, .aload_n 0), (80, .getfield 57), (83, .iload_n 2), (84, .dup2), (85, .iaload), (86, .iconst 1), (87, .iadd), (88, .iastore), (89, .return_)]
/-- 80: Model_note -/
def m_cd80 : List (Nat × Jvm.ClassFile.Instr) := [(0, .aload_n 0), (1, .getfield 127), (4, .sipush 128), (7, .if_icmp .ge 28), (10, .aload_n 0), (11, .getfield 48), (14, .aload_n 0), (15, .getfield 127), (18, .bipush 16), (20, .iload_n 2), (21, .imul), (22, .iload_n 1), (23, .iadd), (24, .iastore), (25, .aload_n 0), (26, .getfield 51), (29, .aload_n 0), (30, .getfield 127), (33, .iload_n 3), (34, .iastore), (35, .aload_n 0), (36, .dup), (37, .getfield 127), (40, .iconst 1), (41, .iadd), (42, .putfield 127), (45, .return_)]
/-- 81: Model_locked -/
def m_cd81 : List (Nat × Jvm.ClassFile.Instr) := [(0, .iconst 0), (1, .istore_n 3), (2, .iconst 0), (3, .istore 4), (5, .iload 4), (7, .aload_n 0), (8, .getfield 148), (11, .if_icmp .gt 65), (14, .aload_n 0), (15, .getfield 66), (18, .iload 4), (20, .iaload), (21, .istore 5), (23, .iload_n 3), (24, .ifCond .ne 40), (27, .iload 5), (29, .ifCond .lt 39), (32, .aload_n 0), (33, .getfield 90), (36, .iconst 4), (37, .iload 5), (39, .imul), (40, .iload_n 1), (41, .iadd), (42, .baload), (43, .ifCond .ne 21), (46, .iload_n 2), (47, .ifCond .eq 21), (50, .aload_n 0), (51, .getfield 87), (54, .iconst 4), (55, .iload 5), (57, .imul), (58, .iload_n 1), (59, .iadd), (60, .baload), (61, .ifCond .eq 7), (64, .iconst 1), (65, .goto 4), (68, .iconst 0), (69, .istore_n 3), (70, .iinc 4 1), (73, .goto (-68)), (76, .iload_n 3), (77, .ireturn)]
/-- 82: Model_touched -/
def m_cd82 : List (Nat × Jvm.ClassFile.Instr) := [(0, .aload_n 0), (1, .getfield 142), (4, .ifCond .lt 17), (7, .aload_n 0), (8, .getfield 87), (11, .iconst 4), (12, .aload_n 0), (13, .getfield 142), (16, .imul), (17, .iload_n 1), (18, .iadd), (19, .iconst 1), (20, .bastore), (21, .return_)]
/-- 83: Model_got -/
def m_cd83 : List (Nat × Jvm.ClassFile.Instr) := [(0, .aload_n 0), (1, .getfield 142), (4, .ifCond .lt 35), (7, .aload_n 0), (8, .getfield 81), (11, .iconst 4), (12, .aload_n 0), (13, .getfield 142), (16, .imul), (17, .iload_n 1), (18, .iadd), (19, .baload), (20, .ifCond .eq 19), (23, .aload_n 0), (24, .getfield 84), (27, .iconst 4), (28, .aload_n 0), (29, .getfield 142), (32, .imul), (33, .iload_n 1), (34, .iadd), (35, .iaload), (36, .goto 9), (39, .aload_n 0), (40, .getfield 42), (43, .iload_n 1), (44, .iaload), (45, .ireturn)]
/-- 84: Model_put -/
def m_cd84 : List (Nat × Jvm.ClassFile.Instr) := [(0, .aload_n 0), (1, .getfield 142), (4, .ifCond .ge 13), (7, .aload_n 0), (8, .getfield 42), (11, .iload_n 1), (12, .iload_n 2), (13, .iastore), (14, .goto 45), (17, .aload_n 0), (18, .getfield 81), (21, .iconst 4), (22, .aload_n 0), (23, .getfield 142), (26, .imul), (27, .iload_n 1), (28, .iadd), (29, .iconst 1), (30, .bastore), (31, .aload_n 0), (32, .getfield 84), (35, .iconst 4), (36, .aload_n 0), (37, .getfield 142), (40, .imul), (41, .iload_n 1), (42, .iadd), (43, .iload_n 2), (44, .iastore), (45, .aload_n 0), (46, .getfield 90), (49, .iconst 4), (50, .aload_n 0), (51, .getfield 142), (54, .imul), (55, .iload_n 1), (56, .iadd), (57, .iconst 1), (58, .bastore), (59, .aload_n 0), (60, .iconst 2), (61, .iload_n 1), (62, .iload_n 2), (63, .invokevirtual 130), (66, .return_)]
/-- 85: Model_addHook -/
def m_cd85 : List (Nat × Jvm.ClassFile.Instr) := [(0, .aload_n 0), (1, .getfield 142), (4, .ifCond .lt 71), (7, .aload_n 0), (8, .getfield 96), (11, .aload_n 0), (12, .getfield 142), (15, .iaload), (16, .bipush 8), (18, .if_icmp .ge 57), (21, .bipush 8), (23, .aload_n 0), (24, .getfield 142), (27, .imul), (28, .aload_n 0), (29, .getfield 96), (32, .aload_n 0), (33, .getfield 142), (36, .iaload), (37, .iadd), (38, .istore_n 3), (39, .aload_n 0), (40, .getfield 99), (43, .iload_n 3), (44, .iload_n 1), (45, .iastore), (46, .aload_n 0), (47, .getfield 102), (50, .iload_n 3), (51, .iload_n 2), (52, .iconst 1), (53, .if_icmp .ne 7), (56, .iconst 1), (57, .goto 4), (60, .iconst 0), (61, .bastore), (62, .aload_n 0), (63, .getfield 96), (66, .aload_n 0), (67, .getfield 142), (70, .dup2), (71, .iaload), (72, .iconst 1), (73, .iadd), (74, .iastore), (75, .return_)]
/-- 86: Model_finish -/
def m_cd86 : List (Nat × Jvm.ClassFile.Instr) := [(0, .aload_n 0), (1, .getfield 148), (4, .istore_n 1), (5, .aload_n 0), (6, .getfield 69), (9, .iload_n 1), (10, .baload), (11, .ifCond .ne 31), (14, .aload_n 0), (15, .getfield 60), (18, .iload_n 1), (19, .iaload), (20, .ifCond .lt 26), (23, .aload_n 0), (24, .aload_n 0), (25, .getfield 54), (28, .iload_n 1), (29, .iaload), (30, .aload_n 0), (31, .getfield 60), (34, .iload_n 1), (35, .iaload), (36, .invokevirtual 123), (39, .ifCond .eq 7), (42, .iconst 1), (43, .goto 4), (46, .iconst 0), (47, .istore_n 2), (48, .aload_n 0), (49, .getfield 60), (52, .iload_n 1), (53, .iaload), (54, .istore_n 3), (55, .aload_n 0), (56, .getfield 63), (59, .iload_n 1), (60, .iaload), (61, .iconst 1), (62, .if_icmp .ne 36), (65, .aload_n 0), (66, .getfield 93), (69, .aload_n 0), (70, .getfield 142), (73, .aload_n 0), (74, .getfield 93), (77, .aload_n 0), (78, .getfield 142), (81, .baload), (82, .ifCond .ne 7), (85, .iload_n 2), (86, .ifCond .eq 7), (89, .iconst 1), (90, .goto 4), (93, .iconst 0), (94, .bastore), (95, .goto 45), (98, .aload_n 0), (99, .getfield 63), (102, .iload_n 1), (103, .iaload), (104, .iconst 2), (105, .if_icmp .ne 13), (108, .aload_n 0), (109, .iload_n 1), (110, .iload_n 2), (111, .invokevirtual 160), (114, .istore_n 3), (115, .goto 25), (118, .aload_n 0), (119, .getfield 63), (122, .iload_n 1), (123, .iaload), (124, .iconst 3), (125, .if_icmp .ne 15), (128, .aload_n 0), (129, .iload_n 1), (130, .iload_n 2), (131, .invokevirtual 164), (134, .istore_n 3), (135, .aload_n 0), (136, .iconst (-1)), (137, .putfield 142), (140, .aload_n 0), (141, .aload_n 0), (142, .getfield 66), (145, .iload_n 1), (146, .iaload), (147, .ifCond .lt 12), (150, .aload_n 0), (151, .getfield 66), (154, .iload_n 1), (155, .iaload), (156, .goto 7), (159, .aload_n 0), (160, .getfield 142), (163, .putfield 142), (166, .aload_n 0), (167, .dup), (168, .getfield 148), (171, .iconst 1), (172, .isub), (173, .putfield 148), (176, .aload_n 0), (177, .getfield 148), (180, .ifCond .lt 11), (183, .aload_n 0), (184, .iload_n 3), (185, .invokevirtual 167), (188, .goto 8), (191, .aload_n 0), (192, .iload_n 3), (193, .putfield 170), (196, .return_)]
/-- 87: Model_unmark -/
def m_cd87 : List (Nat × Jvm.ClassFile.Instr) := [(0, .aload_n 0), (1, .getfield 93), (4, .aload_n 0), (5, .getfield 142), (8, .baload), (9, .ifCond .eq 16), (12, .aload_n 0), (13, .getfield 78), (16, .iload_n 1), (17, .baload), (18, .ifCond .ne 7), (21, .iconst 1), (22, .goto 4), (25, .iconst 0), (26, .istore_n 3), (27, .iload_n 2), (28, .ifCond .ne 14), (31, .iload_n 3), (32, .ifCond .ne 10), (35, .aload_n 0), (36, .getfield 60), (39, .iload_n 1), (40, .iaload), (41, .ireturn), (42, .iconst 0), (43, .istore 4), (45, .iload 4), (47, .iconst 4), (48, .if_icmp .ge 59), (51, .aload_n 0), (52, .getfield 81), (55, .iconst 4), (56, .aload_n 0), (57, .getfield 142), (60, .imul), (61, .iload 4), (63, .iadd), (64, .aload_n 0), (65, .getfield 72), (68, .iconst 4), (69, .iload_n 1), (70, .imul), (71, .iload 4), (73, .iadd), (74, .baload), (75, .bastore), (76, .aload_n 0), (77, .getfield 84), (80, .iconst 4), (81, .aload_n 0), (82, .getfield 142), (85, .imul), (86, .iload 4), (88, .iadd), (89, .aload_n 0), (90, .getfield 75), (93, .iconst 4), (94, .iload_n 1), (95, .imul), (96, .iload 4), (98, .iadd), (99, .iaload), (100, .iastore), (101, .iinc 4 1), (104, .goto (-59)), (107, .aload_n 0), (108, .getfield 93), (111, .aload_n 0), (112, .getfield 142), (115, .aload_n 0), (116, .getfield 78), (119, .iload_n 1), (120, .baload), (121, .bastore), (122, .aload_n 0), (123, .getfield 45), (126, .iconst 3), (127, .dup2), (128, .iaload), (129, .iconst 1), (130, .iadd), (131, .iastore), (132, .iload_n 2), (133, .ifCond .eq 12), (136, .aload_n 0), (137, .getfield 60), (140, .iload_n 1), (141, .iaload), (142, .goto 5), (145, .bipush 6), (147, .ireturn)]
/-- 88: Model_endBegun -/
def m_cd88 : List (Nat × Jvm.ClassFile.Instr) := [(0, .iload_n 2), (1, .ifCond .ne 12), (4, .aload_n 0), (5, .getfield 93), (8, .iload_n 1), (9, .baload), (10, .ifCond .eq 24), (13, .aload_n 0), (14, .iload_n 1), (15, .invokevirtual 138), (18, .iload_n 2), (19, .ifCond .eq 12), (22, .aload_n 0), (23, .getfield 60), (26, .iload_n 1), (27, .iaload), (28, .goto 5), (31, .bipush 6), (33, .ireturn), (34, .aload_n 0), (35, .iload_n 1), (36, .invokevirtual 157), (39, .ifCond .eq 12), (42, .aload_n 0), (43, .getfield 60), (46, .iload_n 1), (47, .iaload), (48, .goto 5), (51, .bipush 8), (53, .ireturn)]
/-- 89: Model_rollBack -/
def m_cd89 : List (Nat × Jvm.ClassFile.Instr) := [(0, .aload_n 0), (1, .iload_n 1), (2, .iconst 4), (3, .invokevirtual 134), (6, .aload_n 0), (7, .bipush 10), (9, .iconst 0), (10, .iconst 0), (11, .invokevirtual 130), (14, .aload_n 0), (15, .getfield 45), (18, .iconst 2), (19, .dup2), (20, .iaload), (21, .iconst 1), (22, .iadd), (23, .iastore), (24, .aload_n 0), (25, .iload_n 1), (26, .bipush 6), (28, .invokevirtual 134), (31, .return_)]
/-- 90: Model_noteHooks -/
def m_cd90 : List (Nat × Jvm.ClassFile.Instr) := [(0, .bipush 8), (2, .iload_n 1), (3, .imul), (4, .istore_n 3), (5, .iload_n 3), (6, .bipush 8), (8, .iload_n 1), (9, .imul), (10, .aload_n 0), (11, .getfield 96), (14, .iload_n 1), (15, .iaload), (16, .iadd), (17, .if_icmp .ge 21), (20, .aload_n 0), (21, .iload_n 2), (22, .aload_n 0), (23, .getfield 99), (26, .iload_n 3), (27, .iaload), (28, .iconst 0), (29, .invokevirtual 130), (32, .iinc 3 1), (35, .goto (-30)), (38, .return_)]
/-- 91: Model_commit -/
def m_cd91 : List (Nat × Jvm.ClassFile.Instr) := [(0, .bipush 8), (2, .iload_n 1), (3, .imul), (4, .istore_n 2), (5, .iload_n 2), (6, .bipush 8), (8, .iload_n 1), (9, .imul), (10, .aload_n 0), (11, .getfield 96), (14, .iload_n 1), (15, .iaload), (16, .iadd), (17, .if_icmp .ge 37), (20, .aload_n 0), (21, .iconst 3), (22, .aload_n 0), (23, .getfield 99), (26, .iload_n 2), (27, .iaload), (28, .iconst 0), (29, .invokevirtual 130), (32, .aload_n 0), (33, .getfield 102), (36, .iload_n 2), (37, .baload), (38, .ifCond .eq 10), (41, .aload_n 0), (42, .iload_n 1), (43, .invokevirtual 138), (46, .iconst 0), (47, .ireturn), (48, .iinc 2 1), (51, .goto (-46)), (54, .aload_n 0), (55, .iload_n 1), (56, .iconst 4), (57, .invokevirtual 134), (60, .iconst 0), (61, .istore_n 2), (62, .iload_n 2), (63, .iconst 4), (64, .if_icmp .ge 47), (67, .aload_n 0), (68, .getfield 42), (71, .iload_n 2), (72, .aload_n 0), (73, .getfield 81), (76, .iconst 4), (77, .iload_n 1), (78, .imul), (79, .iload_n 2), (80, .iadd), (81, .baload), (82, .ifCond .eq 16), (85, .aload_n 0), (86, .getfield 84), (89, .iconst 4), (90, .iload_n 1), (91, .imul), (92, .iload_n 2), (93, .iadd), (94, .iaload), (95, .goto 9), (98, .aload_n 0), (99, .getfield 42), (102, .iload_n 2), (103, .iaload), (104, .iastore), (105, .iinc 2 1), (108, .goto (-46)), (111, .aload_n 0), (112, .bipush 9), (114, .iconst 0), (115, .iconst 0), (116, .invokevirtual 130), (119, .aload_n 0), (120, .getfield 45), (123, .iconst 1), (124, .dup2), (125, .iaload), (126, .iconst 1), (127, .iadd), (128, .iastore), (129, .aload_n 0), (130, .iload_n 1), (131, .iconst 5), (132, .invokevirtual 134), (135, .aload_n 0), (136, .iload_n 1), (137, .bipush 7), (139, .invokevirtual 134), (142, .iconst 1), (143, .ireturn)]
/-- 92: Model_set -/
def m_cd92 : List (Nat × Jvm.ClassFile.Instr) := [(0, .iload_n 1), (1, .ifCond .lt 8), (4, .iload_n 1), (5, .iconst 3), (6, .if_icmp .le 5), (9, .iconst 0), (10, .ireturn), (11, .aload_n 0), (12, .getfield 42), (15, .iload_n 1), (16, .iload_n 2), (17, .iastore), (18, .iconst 1), (19, .ireturn)]
/-- 93: Model_value -/
def m_cd93 : List (Nat × Jvm.ClassFile.Instr) := [(0, .iload_n 1), (1, .ifCond .lt 8), (4, .iload_n 1), (5, .iconst 3), (6, .if_icmp .le 7), (9, .iconst 0), (10, .goto 9), (13, .aload_n 0), (14, .getfield 42), (17, .iload_n 1), (18, .iaload), (19, .ireturn)]
/-- 94: Model_events -/
def m_cd94 : List (Nat × Jvm.ClassFile.Instr) := [(0, .aload_n 0), (1, .getfield 127), (4, .ireturn)]
/-- 95: Model_event -/
def m_cd95 : List (Nat × Jvm.ClassFile.Instr) := [(0, .aload_n 0), (1, .iload_n 1), (2, .invokevirtual 199), (5, .ifCond .eq 12), (8, .aload_n 0), (9, .getfield 48), (12, .iload_n 1), (13, .iaload), (14, .goto 4), (17, .iconst (-1)), (18, .ireturn)]
/-- 96: Model_kept -/
def m_cd96 : List (Nat × Jvm.ClassFile.Instr) := [(0, .iload_n 1), (1, .ifCond .lt 22), (4, .iload_n 1), (5, .aload_n 0), (6, .getfield 127), (9, .if_icmp .ge 14), (12, .iload_n 1), (13, .sipush 128), (16, .if_icmp .ge 7), (19, .iconst 1), (20, .goto 4), (23, .iconst 0), (24, .ireturn)]
/-- 97: Model_amount -/
def m_cd97 : List (Nat × Jvm.ClassFile.Instr) := [(0, .aload_n 0), (1, .iload_n 1), (2, .invokevirtual 199), (5, .ifCond .eq 12), (8, .aload_n 0), (9, .getfield 51), (12, .iload_n 1), (13, .iaload), (14, .goto 4), (17, .iconst 0), (18, .ireturn)]
/-- 98: Model_calls -/
def m_cd98 : List (Nat × Jvm.ClassFile.Instr) := [(0, .aload_n 0), (1, .getfield 145), (4, .ireturn)]
/-- 99: Model_count -/
def m_cd99 : List (Nat × Jvm.ClassFile.Instr) := [(0, .iload_n 1), (1, .ifCond .lt 8), (4, .iload_n 1), (5, .iconst 3), (6, .if_icmp .le 7), (9, .iconst (-1)), (10, .goto 9), (13, .aload_n 0), (14, .getfield 45), (17, .iload_n 1), (18, .iaload), (19, .ireturn)]
/-- 100: Model_size -/
def m_cd100 : List (Nat × Jvm.ClassFile.Instr) := [(0, .iload_n 1), (1, .ifCond .ne 10), (4, .aload_n 0), (5, .getfield 7), (8, .goto 16), (11, .iload_n 1), (12, .iconst 1), (13, .if_icmp .ne 10), (16, .aload_n 0), (17, .getfield 105), (20, .goto 4), (23, .iconst (-1)), (24, .ireturn)]
/-- 101: Law -/
def m_cd101 : List (Nat × Jvm.ClassFile.Instr) := [(0, .new 7), (3, .dup), (4, .invokespecial 9), (7, .astore_n 1), (8, .new 10), (11, .dup), (12, .invokespecial 12), (15, .astore_n 2), (16, .iconst 0), (17, .istore_n 3), (18, .iload_n 3), (19, .aload_n 0), (20, .arraylength), (21, .iconst 5), (22, .isub), (23, .if_icmp .gt 512), (26, .aload_n 0), (27, .iload_n 3), (28, .iaload), (29, .bipush 15), (31, .iand), (32, .tableswitch 497 0 14 #[76, 99, 122, 181, 234, 257, 290, 313, 346, 379, 392, 415, 438, 451, 474]), (108, .aload_n 1), (109, .aload_n 0), (110, .iload_n 3), (111, .iconst 1), (112, .iadd), (113, .iaload), (114, .invokevirtual 13), (117, .aload_n 2), (118, .aload_n 0), (119, .iload_n 3), (120, .iconst 1), (121, .iadd), (122, .iaload), (123, .invokevirtual 17), (126, .if_icmp .eq 403), (129, .iconst 0), (130, .ireturn), (131, .aload_n 1), (132, .aload_n 0), (133, .iload_n 3), (134, .iconst 1), (135, .iadd), (136, .iaload), (137, .invokevirtual 18), (140, .aload_n 2), (141, .aload_n 0), (142, .iload_n 3), (143, .iconst 1), (144, .iadd), (145, .iaload), (146, .invokevirtual 21), (149, .if_icmp .eq 380), (152, .iconst 0), (153, .ireturn), (154, .aload_n 1), (155, .aload_n 0), (156, .iload_n 3), (157, .iconst 1), (158, .iadd), (159, .iaload), (160, .aload_n 0), (161, .iload_n 3), (162, .iconst 2), (163, .iadd), (164, .iaload), (165, .aload_n 0), (166, .iload_n 3), (167, .iconst 3), (168, .iadd), (169, .iaload), (170, .ifCond .eq 7), (173, .iconst 1), (174, .goto 4), (177, .iconst 0), (178, .invokevirtual 22), (181, .aload_n 2), (182, .aload_n 0), (183, .iload_n 3), (184, .iconst 1), (185, .iadd), (186, .iaload), (187, .aload_n 0), (188, .iload_n 3), (189, .iconst 2), (190, .iadd), (191, .iaload), (192, .aload_n 0), (193, .iload_n 3), (194, .iconst 3), (195, .iadd), (196, .iaload), (197, .ifCond .eq 7), (200, .iconst 1), (201, .goto 4), (204, .iconst 0), (205, .invokevirtual 26), (208, .if_icmp .eq 321), (211, .iconst 0), (212, .ireturn), (213, .aload_n 1), (214, .aload_n 0), (215, .iload_n 3), (216, .iconst 1), (217, .iadd), (218, .iaload), (219, .aload_n 0), (220, .iload_n 3), (221, .iconst 2), (222, .iadd), (223, .iaload), (224, .aload_n 0), (225, .iload_n 3), (226, .iconst 3), (227, .iadd), (228, .iaload), (229, .aload_n 0), (230, .iload_n 3), (231, .iconst 4), (232, .iadd), (233, .iaload), (234, .invokevirtual 27), (237, .aload_n 2), (238, .aload_n 0), (239, .iload_n 3), (240, .iconst 1), (241, .iadd), (242, .iaload), (243, .aload_n 0), (244, .iload_n 3), (245, .iconst 2), (246, .iadd), (247, .iaload), (248, .aload_n 0), (249, .iload_n 3), (250, .iconst 3), (251, .iadd), (252, .iaload), (253, .aload_n 0), (254, .iload_n 3), (255, .iconst 4), (256, .iadd), (257, .iaload), (258, .invokevirtual 31), (261, .if_icmp .eq 268), (264, .iconst 0), (265, .ireturn), (266, .aload_n 1), (267, .aload_n 0), (268, .iload_n 3), (269, .iconst 1), (270, .iadd), (271, .iaload), (272, .invokevirtual 32), (275, .aload_n 2), (276, .aload_n 0), (277, .iload_n 3), (278, .iconst 1), (279, .iadd), (280, .iaload), (281, .invokevirtual 35), (284, .if_icmp .eq 245), (287, .iconst 0), (288, .ireturn), (289, .aload_n 1), (290, .aload_n 0), (291, .iload_n 3), (292, .iconst 1), (293, .iadd), (294, .iaload), (295, .aload_n 0), (296, .iload_n 3), (297, .iconst 2), (298, .iadd), (299, .iaload), (300, .invokevirtual 36), (303, .aload_n 2), (304, .aload_n 0), (305, .iload_n 3), (306, .iconst 1), (307, .iadd), (308, .iaload), (309, .aload_n 0), (310, .iload_n 3), (311, .iconst 2), (312, .iadd), (313, .iaload), (314, .invokevirtual 40), (317, .if_icmp .eq 212), (320, .iconst 0), (321, .ireturn), (322, .aload_n 1), (323, .aload_n 0), (324, .iload_n 3), (325, .iconst 1), (326, .iadd), (327, .iaload), (328, .invokevirtual 41), (331, .aload_n 2), (332, .aload_n 0), (333, .iload_n 3), (334, .iconst 1), (335, .iadd), (336, .iaload), (337, .invokevirtual 44), (340, .if_icmp .eq 189), (343, .iconst 0), (344, .ireturn), (345, .aload_n 1), (346, .aload_n 0), (347, .iload_n 3), (348, .iconst 1), (349, .iadd), (350, .iaload), (351, .aload_n 0), (352, .iload_n 3), (353, .iconst 2), (354, .iadd), (355, .iaload), (356, .invokevirtual 45), (359, .aload_n 2), (360, .aload_n 0), (361, .iload_n 3), (362, .iconst 1), (363, .iadd), (364, .iaload), (365, .aload_n 0), (366, .iload_n 3), (367, .iconst 2), (368, .iadd), (369, .iaload), (370, .invokevirtual 48), (373, .if_icmp .eq 156), (376, .iconst 0), (377, .ireturn), (378, .aload_n 1), (379, .aload_n 0), (380, .iload_n 3), (381, .iconst 1), (382, .iadd), (383, .iaload), (384, .aload_n 0), (385, .iload_n 3), (386, .iconst 2), (387, .iadd), (388, .iaload), (389, .invokevirtual 49), (392, .aload_n 2), (393, .aload_n 0), (394, .iload_n 3), (395, .iconst 1), (396, .iadd), (397, .iaload), (398, .aload_n 0), (399, .iload_n 3), (400, .iconst 2), (401, .iadd), (402, .iaload), (403, .invokevirtual 52), (406, .if_icmp .eq 123), (409, .iconst 0), (410, .ireturn), (411, .aload_n 1), (412, .invokevirtual 53), (415, .aload_n 2), (416, .invokevirtual 57), (419, .if_icmp .eq 110), (422, .iconst 0), (423, .ireturn), (424, .aload_n 1), (425, .aload_n 0), (426, .iload_n 3), (427, .iconst 1), (428, .iadd), (429, .iaload), (430, .invokevirtual 58), (433, .aload_n 2), (434, .aload_n 0), (435, .iload_n 3), (436, .iconst 1), (437, .iadd), (438, .iaload), (439, .invokevirtual 61), (442, .if_icmp .eq 87), (445, .iconst 0), (446, .ireturn), (447, .aload_n 1), (448, .aload_n 0), (449, .iload_n 3), (450, .iconst 1), (451, .iadd), (452, .iaload), (453, .invokevirtual 62), (456, .aload_n 2), (457, .aload_n 0), (458, .iload_n 3), (459, .iconst 1), (460, .iadd), (461, .iaload), (462, .invokevirtual 65), (465, .if_icmp .eq 64), (468, .iconst 0), (469, .ireturn), (470, .aload_n 1), (471, .invokevirtual 66), (474, .aload_n 2), (475, .invokevirtual 69), (478, .if_icmp .eq 51), (481, .iconst 0), (482, .ireturn), (483, .aload_n 1), (484, .aload_n 0), (485, .iload_n 3), (486, .iconst 1), (487, .iadd), (488, .iaload), (489, .invokevirtual 70), (492, .aload_n 2), (493, .aload_n 0), (494, .iload_n 3), (495, .iconst 1), (496, .iadd), (497, .iaload), (498, .invokevirtual 73), (501, .if_icmp .eq 28), (504, .iconst 0), (505, .ireturn), (506, .aload_n 1), (507, .aload_n 0), (508, .iload_n 3), (509, .iconst 1), (510, .iadd), (511, .iaload), (512, .invokevirtual 74), (515, .aload_n 2), (516, .aload_n 0), (517, .iload_n 3), (518, .iconst 1), (519, .iadd), (520, .iaload), (521, .invokevirtual 77), (524, .if_icmp .eq 5), (527, .iconst 0), (528, .ireturn), (529, .iinc 3 5), (532, .goto (-514)), (535, .iconst 1), (536, .ireturn)]
def m_bc : List (ByteArray × List (Nat × Jvm.ClassFile.Instr)) := [(ByteArray.empty, m_cd0), (prog_4_method_1_code, m_cd1), (prog_1_method_1_code, m_cd2), (prog_5_method_1_code, m_cd3), (prog_2_method_1_code, m_cd4), (prog_6_method_1_code, m_cd5), (prog_3_method_1_code, m_cd6), (prog_1_method_2_code, m_cd7), (prog_4_method_2_code, m_cd8), (prog_4_method_3_code, m_cd9), (prog_1_method_3_code, m_cd10), (prog_1_method_4_code, m_cd11), (prog_1_method_17_code, m_cd12), (prog_5_method_2_code, m_cd13), (prog_1_method_5_code, m_cd14), (prog_1_method_19_code, m_cd15), (prog_1_method_18_code, m_cd16), (prog_5_method_3_code, m_cd17), (prog_1_method_6_code, m_cd18), (prog_3_method_2_code, m_cd19), (prog_1_method_20_code, m_cd20), (prog_1_method_21_code, m_cd21), (prog_2_method_2_code, m_cd22), (prog_1_method_22_code, m_cd23), (prog_1_method_24_code, m_cd24), (prog_6_method_2_code, m_cd25), (prog_1_method_23_code, m_cd26), (prog_2_method_3_code, m_cd27), (prog_1_method_32_code, m_cd28), (prog_1_method_33_code, m_cd29), (prog_1_method_37_code, m_cd30), (prog_1_method_38_code, m_cd31), (prog_6_method_3_code, m_cd32), (prog_3_method_3_code, m_cd33), (prog_1_method_34_code, m_cd34), (prog_1_method_39_code, m_cd35), (prog_6_method_4_code, m_cd36), (prog_1_method_35_code, m_cd37), (prog_1_method_36_code, m_cd38), (prog_4_method_5_code, m_cd39), (prog_4_method_4_code, m_cd40), (prog_6_method_5_code, m_cd41), (prog_1_method_25_code, m_cd42), (prog_5_method_4_code, m_cd43), (prog_1_method_26_code, m_cd44), (prog_2_method_4_code, m_cd45), (prog_1_method_27_code, m_cd46), (prog_1_method_28_code, m_cd47), (prog_1_method_29_code, m_cd48), (prog_1_method_31_code, m_cd49), (prog_1_method_30_code, m_cd50), (prog_1_method_7_code, m_cd51), (prog_1_method_8_code, m_cd52), (prog_1_method_9_code, m_cd53), (prog_1_method_10_code, m_cd54), (prog_1_method_11_code, m_cd55), (prog_1_method_12_code, m_cd56), (prog_3_method_4_code, m_cd57), (prog_1_method_13_code, m_cd58), (prog_1_method_14_code, m_cd59), (prog_1_method_15_code, m_cd60), (prog_1_method_16_code, m_cd61), (prog_8_method_1_code, m_cd62), (prog_8_method_4_code, m_cd63), (prog_8_method_2_code, m_cd64), (prog_8_method_5_code, m_cd65), (prog_8_method_6_code, m_cd66), (prog_8_method_3_code, m_cd67), (prog_8_method_8_code, m_cd68), (prog_8_method_7_code, m_cd69), (prog_8_method_10_code, m_cd70), (prog_8_method_9_code, m_cd71), (prog_8_method_12_code, m_cd72), (prog_8_method_11_code, m_cd73), (prog_8_method_30_code, m_cd74), (prog_8_method_19_code, m_cd75), (prog_8_method_17_code, m_cd76), (prog_8_method_18_code, m_cd77), (prog_8_method_29_code, m_cd78), (prog_8_method_20_code, m_cd79), (prog_8_method_13_code, m_cd80), (prog_8_method_24_code, m_cd81), (prog_8_method_27_code, m_cd82), (prog_8_method_25_code, m_cd83), (prog_8_method_26_code, m_cd84), (prog_8_method_28_code, m_cd85), (prog_8_method_23_code, m_cd86), (prog_8_method_21_code, m_cd87), (prog_8_method_22_code, m_cd88), (prog_8_method_15_code, m_cd89), (prog_8_method_14_code, m_cd90), (prog_8_method_16_code, m_cd91), (prog_8_method_31_code, m_cd92), (prog_8_method_32_code, m_cd93), (prog_8_method_33_code, m_cd94), (prog_8_method_35_code, m_cd95), (prog_8_method_34_code, m_cd96), (prog_8_method_36_code, m_cd97), (prog_8_method_37_code, m_cd98), (prog_8_method_38_code, m_cd99), (prog_8_method_39_code, m_cd100), (code, m_cd101)]
def m_by (y : Nat) : ByteArray := (m_bc.getD y (ByteArray.empty, [])).1
def m_tb (y pc : Nat) : Option Jvm.ClassFile.Instr := ((m_bc.getD y (ByteArray.empty, [])).2).lookup pc
def m_fls : List (List (Nat × Nat × Nat)) := [[(10, 0, 0), (18, 0, 1), (22, 0, 3), (28, 0, 4), (37, 0, 5), (41, 0, 6), (52, 0, 2), (56, 2, 0), (77, 0, 7), (95, 5, 2), (101, 5, 0), (104, 5, 1), (107, 1, 1), (114, 2, 7), (117, 2, 4), (120, 2, 5), (123, 2, 6), (146, 4, 2), (154, 4, 3), (157, 4, 1), (160, 4, 0), (166, 4, 4), (178, 3, 7), (181, 4, 7), (197, 3, 6), (200, 3, 4), (207, 3, 5), (241, 3, 2), (248, 3, 3)], [(19, 1, 0), (24, 1, 1)], [(9, 2, 1), (15, 2, 2), (19, 2, 4), (22, 2, 5), (25, 2, 6), (28, 2, 3), (32, 2, 7)], [(9, 3, 0), (15, 3, 1), (19, 3, 2), (22, 3, 3), (25, 3, 4), (28, 3, 5), (31, 3, 6)], [(18, 4, 5), (22, 4, 6), (40, 3, 7), (43, 4, 7), (46, 3, 0), (49, 3, 1)], [(9, 5, 0), (15, 5, 1), (18, 5, 2)], [(7, 6, 0), (13, 6, 1), (17, 6, 3), (20, 6, 4), (23, 6, 5), (26, 6, 6), (30, 6, 7), (33, 6, 8), (36, 6, 9), (39, 6, 10), (42, 6, 11), (45, 6, 12), (48, 6, 15), (51, 6, 16), (54, 6, 20), (57, 6, 21), (60, 6, 22), (63, 6, 23), (66, 6, 24), (69, 6, 25), (72, 6, 26), (75, 6, 27), (78, 6, 28), (81, 6, 29), (84, 6, 30), (87, 6, 31), (90, 6, 32), (93, 6, 33), (96, 6, 34), (99, 6, 35), (102, 6, 36), (105, 6, 2), (127, 6, 14), (142, 6, 18), (145, 6, 13), (148, 6, 17), (170, 6, 19)], [], []]
def m_fl (y idx : Nat) : Option (Nat × Nat) := (m_fls.getD (m_oc y) []).lookup idx
def m_fps : List (List (Nat × Nat × Nat)) := [[(10, 0, 0), (18, 0, 1), (22, 0, 3), (28, 0, 4), (37, 0, 5), (41, 0, 6), (52, 0, 2), (56, 2, 0), (77, 0, 7), (146, 4, 2), (154, 4, 3), (157, 4, 1), (166, 4, 4), (178, 3, 7)], [(19, 1, 0), (24, 1, 1)], [(9, 2, 1), (15, 2, 2), (19, 2, 4), (22, 2, 5), (25, 2, 6), (28, 2, 3), (32, 2, 7)], [(9, 3, 0), (15, 3, 1), (19, 3, 2), (22, 3, 3), (25, 3, 4), (28, 3, 5), (31, 3, 6), (35, 3, 7)], [(12, 4, 0), (18, 4, 5), (22, 4, 6), (26, 4, 1), (29, 4, 2), (32, 4, 3), (36, 4, 4), (40, 3, 7), (43, 4, 7)], [(9, 5, 0), (15, 5, 1), (18, 5, 2)], [(7, 6, 0), (13, 6, 1), (17, 6, 3), (20, 6, 4), (23, 6, 5), (26, 6, 6), (30, 6, 7), (33, 6, 8), (36, 6, 9), (39, 6, 10), (42, 6, 11), (45, 6, 12), (48, 6, 15), (51, 6, 16), (54, 6, 20), (57, 6, 21), (60, 6, 22), (63, 6, 23), (66, 6, 24), (69, 6, 25), (72, 6, 26), (75, 6, 27), (78, 6, 28), (81, 6, 29), (84, 6, 30), (87, 6, 31), (90, 6, 32), (93, 6, 33), (96, 6, 34), (99, 6, 35), (102, 6, 36), (105, 6, 2), (127, 6, 14), (142, 6, 18), (145, 6, 13), (148, 6, 17), (170, 6, 19)], [], []]
def m_fz (c j : Nat) : Bool := ([[true, true, false, true, true, true, true, false], [true, false], [false, true, true, false, true, true, true, false], [true, true, true, true, true, true, false, false], [true, false, false, false, false, true, true, false], [true, true, false], [false, false, false, false, false, false, false, false, false, false, false, false, false, false, false, false, false, false, false, false, false, false, false, false, false, false, false, false, false, false, false, false, false, false, false, false, false]] : List (List Bool)).getD c [] |>.getD j false
def m_fp (y idx : Nat) : Option (Nat × Nat) := match (m_fps.getD (m_oc y) []).lookup idx with
  | some (c, j) => if m_fz c j = true ∧ ¬ (m_kd y = 2 ∧ c = m_oc y) then none else some (c, j)
  | none => none
def m_nws : List (List (Nat × Nat)) := [[(7, 1), (16, 2), (26, 4), (34, 5)], [], [], [], [(9, 3)], [], [], [(7, 0), (10, 6)], []]
def m_cl (y idx : Nat) : Option Nat := (m_nws.getD (m_oc y) []).lookup idx
def m_ans : List (List (Nat × Nat)) := [[(16, 3), (26, 4)], [], [], [], [], [], [], [], []]
def m_ca (y idx : Nat) : Option Nat := (m_ans.getD (m_oc y) []).lookup idx
def m_mls : List (List (Nat × Nat)) := [[(1, 0), (9, 1), (32, 3), (33, 4), (36, 6), (44, 8), (48, 9), (59, 12), (62, 13), (66, 15), (70, 17), (74, 19), (80, 20), (84, 16), (87, 39), (91, 43), (98, 57), (110, 21), (126, 28), (130, 42), (134, 22), (135, 23), (139, 26), (142, 24), (150, 27), (163, 25), (170, 44), (174, 46), (184, 45), (187, 47), (191, 48), (194, 50), (203, 33), (211, 49), (215, 32), (219, 29), (222, 34), (225, 37), (227, 38), (230, 41), (234, 30), (238, 31), (244, 35), (251, 36)], [(3, 0), (28, 8), (32, 40)], [(3, 0), (35, 39), (41, 40)], [(3, 0)], [(3, 0), (11, 5)], [(3, 0)], [(1, 0), (108, 64), (112, 67), (115, 69), (119, 71), (123, 73), (130, 80), (134, 90), (138, 89), (151, 76), (154, 77), (157, 91), (160, 87), (164, 88), (167, 79), (173, 75), (177, 81), (181, 82), (184, 83), (187, 84), (190, 85), (193, 78), (196, 86), (199, 96)], [(9, 2), (12, 62), (13, 7), (17, 63), (18, 10), (21, 65), (22, 11), (26, 66), (27, 14), (31, 68), (32, 18), (35, 74), (36, 51), (40, 92), (41, 52), (44, 93), (45, 53), (48, 70), (49, 54), (52, 72), (53, 55), (57, 94), (58, 56), (61, 95), (62, 58), (65, 97), (66, 59), (69, 98), (70, 60), (73, 99), (74, 61), (77, 100)], []]
def m_ml (y idx : Nat) : Option Nat := (m_mls.getD (m_oc y) []).lookup idx
/-! words and their moves -/
def m_W0 : List Cond := lw_tbl.filter goodWord
theorem m_w {x : Cond} (i : Nat) (h : lw_tbl[i]? = some x) (hg : goodWord x = true) : x ∈ m_W0 := List.mem_filter.mpr ⟨List.mem_of_getElem? h, hg⟩
/-- words that aren't among the good ones but are kept as the tables warm up -/
def m_mv : Cond → Bool
  | .fieldLinkNest _ _ _ _ _ _ => true
  | .methodLinkNest _ _ _ _ => true
  | .arrayOver (.object _) => true
  | _ => false
def m_ne (U : State) : Prop := ∀ x ∈ lw_tbl, m_mv x = true → va_Nw x U
theorem m_mv_same {x : Cond} (hm : m_mv x = true) {u U : State} (h : u.vm = U.vm) (hz : va_Nw x u) : va_Nw x U := by
  unfold m_mv at hm
  split at hm
  · exact va_Nw.same rfl h hz
  · exact va_Nw.same rfl h hz
  · exact va_AO.moved (by rw [h]; exact Vm.Alike.refl _) hz
  · cases hm
theorem m_mv_warm {x : Cond} (hm : m_mv x = true) {s U : State} (h : s.WarmedH U.vm) (hz : va_Nw x s) : va_Nw x U := by
  unfold m_mv at hm
  split at hm
  · exact va_Nw.warmF h hz
  · exact va_Nw.warmM h hz
  · exact va_AO.moved h.alike hz
  · cases hm
def m_lkw (own : String) (idx : Nat) (T : u_T) (j : Nat) : Prop := Cond.fieldLink own idx (T j).1 (T j).2.1 (T j).2.2.1 ∈ m_W0 ∨ ∃ host, Cond.fieldLinkNest own idx (T j).1 (T j).2.1 (T j).2.2.1 host ∈ lw_tbl
def m_lmw (own : String) (idx : Nat) (y : MethodName) : Prop := Cond.methodLink own idx y ∈ m_W0 ∨ ∃ host, Cond.methodLinkNest own idx y host ∈ lw_tbl
end
section
/-! The small machine: a method's activation as a least fixed point over states (pc, locals, stack, world). A world is the list of its cells' shapes ((0, class), (1, n) int array, (2, n) boolean array, (3, n), (4, n) arrays of references), the ints (cell, slot) and the references (cell, slot: a cell's number). -/
abbrev mV : Type := Int32 ⊕ Option Nat
abbrev mL : Type := List (Option mV)
abbrev mS : Type := List mV
abbrev mW : Type := List (Nat × Nat) × (Nat → Nat → Int32) × (Nat → Nat → Option Nat)
abbrev mQ : Type := Option mV → mW → Prop
abbrev mX : Type := Nat → mL → mS → mW → Prop
abbrev mC : Type := Nat → List mV → mW → mQ → Prop
abbrev mO : Type := (Nat × mL × mS × mW) ⊕ (Option mV ⊕ (Nat × List mV × mS))
def m_si (f : Nat → Nat → Int32) (k j : Nat) (v : Int32) : Nat → Nat → Int32 := fun a b => if a = k ∧ b = j then v else f a b
def m_sr (f : Nat → Nat → Option Nat) (k j : Nat) (v : Option Nat) : Nat → Nat → Option Nat := fun a b => if a = k ∧ b = j then v else f a b
def m_zi (f : Nat → Nat → Int32) (k : Nat) : Nat → Nat → Int32 := fun a b => if a = k then 0 else f a b
def m_zr (f : Nat → Nat → Option Nat) (k : Nat) : Nat → Nat → Option Nat := fun a b => if a = k then none else f a b
def m_sz (h : Nat × Nat) : Nat := if h.1 = 0 then m_nf h.2 else h.2
def m_sl (l : List (Nat × Nat)) : Nat := (l.map m_sz).sum
def m_ld (w : mW) (ci k j : Nat) : mV := if m_ft ci j = 2 then .inr (w.2.2 k j) else .inl (w.2.1 k j)
def m_go (pc : Nat) (ls : mL) (st : mS) (w : mW) : Option mO := some (.inl (pc, ls, st, w))
def m_nx (pc : Int) (ls : mL) (st : mS) (w : mW) : Option mO := match pc with
  | .ofNat t => m_go t ls st w
  | .negSucc _ => none
def m_li (pc k : Nat) (ls : mL) (st : mS) (w : mW) : Option mO := match ls[k]? with
  | some (some (.inl x)) => m_go pc ls (.inl x :: st) w
  | _ => none
def m_la (pc k : Nat) (ls : mL) (st : mS) (w : mW) : Option mO := match ls[k]? with
  | some (some (.inr r)) => m_go pc ls (.inr r :: st) w
  | _ => none
def m_ti (pc k : Nat) (ls : mL) (st : mS) (w : mW) : Option mO := match st with
  | .inl x :: st' => if k < ls.length then m_go pc (ls.set k (some (.inl x))) st' w else none
  | _ => none
def m_ta (pc k : Nat) (ls : mL) (st : mS) (w : mW) : Option mO := match st with
  | .inr x :: st' => if k < ls.length then m_go pc (ls.set k (some (.inr x))) st' w else none
  | _ => none
def m_b2 (f : Int32 → Int32 → Int32) (pc : Nat) (ls : mL) (st : mS) (w : mW) : Option mO := match st with
  | .inl y :: .inl x :: st' => m_go pc ls (.inl (f x y) :: st') w
  | _ => none
/-- a comparison: the way taken first -/
def m_if (c : Jvm.ClassFile.Cond) (x y : Int32) (a b : Option mO) : Option mO := match c with
  | .eq => if x = y then a else b
  | .ne => if x = y then b else a
  | .lt => if x < y then a else b
  | .ge => if y ≤ x then a else b
  | .gt => if y < x then a else b
  | .le => if x ≤ y then a else b
/-- a field is read -/
def m_gf (f : Option (Nat × Nat)) (pc : Nat) (ls : mL) (st : mS) (w : mW) : Option mO := match f, st with
  | some (ci, j), .inr (some k) :: st' => if w.1[k]? = some (0, ci) then m_go pc ls (m_ld w ci k j :: st') w else none
  | _, _ => none
/-- a field is written: 0 int, 1 boolean, 2 reference -/
def m_pf (f : Option (Nat × Nat)) (pc : Nat) (ls : mL) (st : mS) (w : mW) : Option mO := match f, st with
  | some (ci, j), .inl x :: .inr (some k) :: st' => if w.1[k]? = some (0, ci) ∧ (m_ft ci j = 0 ∨ (m_ft ci j = 1 ∧ (x = 0 ∨ x = 1))) then m_go pc ls st' (w.1, m_si w.2.1 k j x, w.2.2) else none
  | some (ci, j), .inr r :: .inr (some k) :: st' => if w.1[k]? = some (0, ci) ∧ m_ft ci j = 2 then m_go pc ls st' (w.1, w.2.1, m_sr w.2.2 k j r) else none
  | _, _ => none
/-- an int array's element; the script is cell 1000000, its length stands at (1000001, 0) -/
def m_xi (pc : Nat) (ls : mL) (st : mS) (w : mW) : Option mO := match st with
  | .inl i :: .inr (some k) :: st' => match w.1[k]? with
    | some (t, n) => if t = 1 ∧ ¬ (i < 0 ∨ n ≤ i.toNatClampNeg) then m_go pc ls (.inl (w.2.1 k i.toNatClampNeg) :: st') w else none
    | none => if k = 1000000 ∧ ¬ (i < 0 ∨ (w.2.1 1000001 0).toNatClampNeg ≤ i.toNatClampNeg) then m_go pc ls (.inl (w.2.1 k i.toNatClampNeg) :: st') w else none
  | _ => none
def m_xb (pc : Nat) (ls : mL) (st : mS) (w : mW) : Option mO := match st with
  | .inl i :: .inr (some k) :: st' => match w.1[k]? with
    | some (t, n) => if t = 2 ∧ ¬ (i < 0 ∨ n ≤ i.toNatClampNeg) then m_go pc ls (.inl (w.2.1 k i.toNatClampNeg) :: st') w else none
    | none => none
  | _ => none
def m_xa (pc : Nat) (ls : mL) (st : mS) (w : mW) : Option mO := match st with
  | .inl i :: .inr (some k) :: st' => match w.1[k]? with
    | some (t, n) => if (t = 3 ∨ t = 4) ∧ ¬ (i < 0 ∨ n ≤ i.toNatClampNeg) then m_go pc ls (.inr (w.2.2 k i.toNatClampNeg) :: st') w else none
    | none => none
  | _ => none
def m_yi (pc : Nat) (ls : mL) (st : mS) (w : mW) : Option mO := match st with
  | .inl x :: .inl i :: .inr (some k) :: st' => match w.1[k]? with
    | some (t, n) => if t = 1 ∧ ¬ (i < 0 ∨ n ≤ i.toNatClampNeg) then m_go pc ls st' (w.1, m_si w.2.1 k i.toNatClampNeg x, w.2.2) else none
    | none => none
  | _ => none
def m_yb (pc : Nat) (ls : mL) (st : mS) (w : mW) : Option mO := match st with
  | .inl x :: .inl i :: .inr (some k) :: st' => match w.1[k]? with
    | some (t, n) => if (t = 2 ∧ (x = 0 ∨ x = 1)) ∧ ¬ (i < 0 ∨ n ≤ i.toNatClampNeg) then m_go pc ls st' (w.1, m_si w.2.1 k i.toNatClampNeg x, w.2.2) else none
    | none => none
  | _ => none
/-- a reference to an object of the array's own class is put: array kind 3 is of class m_ak 3 .. -/
def m_ya (pc : Nat) (ls : mL) (st : mS) (w : mW) : Option mO := match st with
  | .inr (some v) :: .inl i :: .inr (some k) :: st' => match w.1[k]? with
    | some (t, n) => if ((t = 3 ∨ t = 4) ∧ w.1[v]? = some (0, m_ak t)) ∧ ¬ (i < 0 ∨ n ≤ i.toNatClampNeg) then m_go pc ls st' (w.1, w.2.1, m_sr w.2.2 k i.toNatClampNeg (some v)) else none
    | none => none
  | _ => none
def m_al (pc : Nat) (ls : mL) (st : mS) (w : mW) : Option mO := match st with
  | .inr (some k) :: st' => match w.1[k]? with
    | some (t, n) => if t = 1 ∨ t = 2 ∨ t = 3 ∨ t = 4 then m_go pc ls (.inl (Int32.ofNat n) :: st') w else none
    | none => if k = 1000000 then m_go pc ls (.inl (w.2.1 1000001 0) :: st') w else none
  | _ => none
/-- a new cell of shape h: within what the method may make -/
def m_mk (me N0 S0 : Nat) (h : Nat × Nat) (pc : Nat) (ls : mL) (st : mS) (w : mW) : Option mO :=
  if w.1.length + 1 ≤ N0 + (m_bg me).1 ∧ m_sl w.1 + m_sz h ≤ S0 + (m_bg me).2 ∧ w.1.length < 1000000 then m_go pc ls (.inr (some w.1.length) :: st) (w.1 ++ [h], m_zi w.2.1 w.1.length, m_zr w.2.2 w.1.length) else none
def m_ma (me N0 S0 t : Nat) (pc : Nat) (ls : mL) (st : mS) (w : mW) : Option mO := match st with
  | .inl n :: st' => if t ≠ 0 ∧ ¬ n < 0 ∧ n.toNatClampNeg ≤ 1000 then m_mk me N0 S0 (t, n.toNatClampNeg) pc ls st' w else none
  | _ => none
/-- a call -/
def m_cr (me N0 S0 : Nat) (y : Nat) (kd : Nat) (st : mS) (w : mW) : Option mO := match st.drop (m_na y) with
  | .inr (some b) :: rest => if (m_na y ≤ st.length ∧ m_kd y = kd ∧ rest.length ≤ 8 ∧ (kd = 1 → w.1[b]? = some (0, m_oc y))) ∧ w.1.length + (m_bg y).1 ≤ N0 + (m_bg me).1 ∧ m_sl w.1 + (m_bg y).2 ≤ S0 + (m_bg me).2 then some (.inr (.inr (y, .inr (some b) :: (st.take (m_na y)).reverse, rest))) else none
  | _ => none
def m_cs (me N0 S0 : Nat) (y : Nat) (st : mS) (w : mW) : Option mO :=
  if (m_na y ≤ st.length ∧ m_kd y = 0 ∧ (st.drop (m_na y)).length ≤ 8) ∧ w.1.length + (m_bg y).1 ≤ N0 + (m_bg me).1 ∧ m_sl w.1 + (m_bg y).2 ≤ S0 + (m_bg me).2 then some (.inr (.inr (y, (st.take (m_na y)).reverse, st.drop (m_na y)))) else none
/-- an int is given back -/
def m_ri (me N0 S0 : Nat) (st : mS) (w : mW) : Option mO := match st with
  | [.inl x] => if (m_rt me = 1 ∨ (m_rt me = 2 ∧ (x = 0 ∨ x = 1))) ∧ w.1.length = N0 + (m_bg me).1 ∧ m_sl w.1 = S0 + (m_bg me).2 then some (.inr (.inl (some (.inl x)))) else none
  | _ => none
def m_rv (me N0 S0 : Nat) (st : mS) (w : mW) : Option mO := match st with
  | [] => if m_rt me = 0 ∧ w.1.length = N0 + (m_bg me).1 ∧ m_sl w.1 = S0 + (m_bg me).2 then some (.inr (.inl none)) else none
  | _ => none
/-- Object's constructor -/
def m_so (pc : Nat) (ls : mL) (st : mS) (w : mW) : Option mO := match st with
  | .inr (some _) :: st' => if st'.length ≤ 8 then m_go pc ls st' w else none
  | _ => none
/-- one instruction -/
def m_st (me N0 S0 pc : Nat) (ls : mL) (st : mS) (w : mW) (i : Jvm.ClassFile.Instr) : Option mO := match i with
  | .iconst c => m_go (pc + 1) ls (.inl (Int32.ofInt c) :: st) w
  | .bipush c => m_go (pc + 2) ls (.inl (Int8.ofInt c).toInt32 :: st) w
  | .sipush c => m_go (pc + 3) ls (.inl (Int16.ofInt c).toInt32 :: st) w
  | .aconst_null => m_go (pc + 1) ls (.inr none :: st) w
  | .iload_n k => m_li (pc + 1) k.val ls st w
  | .iload k => m_li (pc + 2) k ls st w
  | .aload_n k => m_la (pc + 1) k.val ls st w
  | .aload k => m_la (pc + 2) k ls st w
  | .istore_n k => m_ti (pc + 1) k.val ls st w
  | .istore k => m_ti (pc + 2) k ls st w
  | .astore_n k => m_ta (pc + 1) k.val ls st w
  | .astore k => m_ta (pc + 2) k ls st w
  | .iinc k c => match ls[k]? with
    | some (some (.inl x)) => m_go (pc + 3) (ls.set k (some (.inl (x + Int32.ofInt c)))) st w
    | _ => none
  | .iadd => m_b2 (fun x y => x + y) (pc + 1) ls st w
  | .isub => m_b2 (fun x y => x - y) (pc + 1) ls st w
  | .imul => m_b2 (fun x y => x * y) (pc + 1) ls st w
  | .iand => m_b2 (fun x y => x &&& y) (pc + 1) ls st w
  | .dup => match st with
    | v :: st' => m_go (pc + 1) ls (v :: v :: st') w
    | _ => none
  | .pop => match st with
    | _ :: st' => m_go (pc + 1) ls st' w
    | _ => none
  | .dup_x1 => match st with
    | a :: b :: st' => m_go (pc + 1) ls (a :: b :: a :: st') w
    | _ => none
  | .dup2 => match st with
    | a :: b :: st' => m_go (pc + 1) ls (a :: b :: a :: b :: st') w
    | _ => none
  | .ifCond c off => match st with
    | .inl x :: st' => m_if c x 0 (m_nx ((pc : Int) + off) ls st' w) (m_go (pc + 3) ls st' w)
    | _ => none
  | .if_icmp c off => match st with
    | .inl y :: .inl x :: st' => m_if c x y (m_nx ((pc : Int) + off) ls st' w) (m_go (pc + 3) ls st' w)
    | _ => none
  | .ifnull off => match st with
    | .inr none :: st' => m_nx ((pc : Int) + off) ls st' w
    | .inr (some _) :: st' => m_go (pc + 3) ls st' w
    | _ => none
  | .ifnonnull off => match st with
    | .inr none :: st' => m_go (pc + 3) ls st' w
    | .inr (some _) :: st' => m_nx ((pc : Int) + off) ls st' w
    | _ => none
  | .goto off => m_nx ((pc : Int) + off) ls st w
  | .tableswitch d lo hi offs => match st with
    | .inl x :: st' => if x.toInt < lo ∨ hi < x.toInt then m_nx ((pc : Int) + d) ls st' w else match offs[(x.toInt - lo).toNat]? with
      | some off => m_nx ((pc : Int) + off) ls st' w
      | none => none
    | _ => none
  | .lookupswitch d ps => match st with
    | .inl x :: st' => if (ps.toList.zip (ps.toList.drop 1)).all (fun q => decide (q.1.1 < q.2.1)) = true then m_nx ((pc : Int) + Op.lookupswitch.offset ps.toList d x.toInt) ls st' w else none
    | _ => none
  | .getfield idx => m_gf (m_fl me idx) (pc + 3) ls st w
  | .putfield idx => m_pf (m_fp me idx) (pc + 3) ls st w
  | .iaload => m_xi (pc + 1) ls st w
  | .baload => m_xb (pc + 1) ls st w
  | .aaload => m_xa (pc + 1) ls st w
  | .iastore => m_yi (pc + 1) ls st w
  | .bastore => m_yb (pc + 1) ls st w
  | .aastore => m_ya (pc + 1) ls st w
  | .arraylength => m_al (pc + 1) ls st w
  | .new idx => match m_cl me idx with
    | some ci => m_mk me N0 S0 (0, ci) (pc + 3) ls st w
    | none => none
  | .newarray t => match t with
    | .int => m_ma me N0 S0 1 (pc + 2) ls st w
    | .boolean => m_ma me N0 S0 2 (pc + 2) ls st w
    | _ => none
  | .anewarray idx => match m_ca me idx with
    | some t => m_ma me N0 S0 t (pc + 3) ls st w
    | none => none
  | .invokevirtual idx => match m_ml me idx with
    | some y => m_cr me N0 S0 y 1 st w
    | none => none
  | .invokespecial idx => match m_ml me idx with
    | some y => if y = 0 then m_so (pc + 3) ls st w else m_cr me N0 S0 y 2 st w
    | none => none
  | .invokestatic idx => match m_ml me idx with
    | some y => m_cs me N0 S0 y st w
    | none => none
  | .ireturn => m_ri me N0 S0 st w
  | .return_ => m_rv me N0 S0 st w
  | _ => none
/-- what an outcome asks for -/
def m_A (cl : mC) (X : mX) (Q : mQ) (pc : Nat) (ls : mL) (w : mW) (o : Option mO) : Prop := match o with
  | none => False
  | some (.inl (pc', ls', st', w')) => X pc' ls' st' w'
  | some (.inr (.inl v)) => Q v w
  | some (.inr (.inr (y, as, rest))) => cl y as w (fun r w' => X (pc + 3) ls (r.toList ++ rest) w')
def m_F (cl : mC) (me N0 S0 : Nat) (X : mX) (Q : mQ) (pc : Nat) (ls : mL) (st : mS) (w : mW) : Prop := match m_tb me pc with
  | none => False
  | some i => m_A cl X Q pc ls w (m_st me N0 S0 pc ls st w i)
/-- the activation of method me at a state comes to an end with Q -/
def m_R (cl : mC) (me N0 S0 : Nat) (Q : mQ) (pc : Nat) (ls : mL) (st : mS) (w : mW) : Prop := ∀ X : mX, (∀ pc ls st w, m_F cl me N0 S0 X Q pc ls st w → X pc ls st w) → X pc ls st w
def m_mono (cl : mC) : Prop := ∀ (y : Nat) (as : List mV) (w : mW) (Q Q' : mQ), (∀ r w', Q r w' → Q' r w') → cl y as w Q → cl y as w Q'
theorem m_A_mono {cl : mC} (hc : m_mono cl) {X X' : mX} {Q Q' : mQ} {pc : Nat} {ls : mL} {w : mW} (hX : ∀ pc ls st w, X pc ls st w → X' pc ls st w) (hQ : ∀ r w, Q r w → Q' r w) : ∀ {o : Option mO}, m_A cl X Q pc ls w o → m_A cl X' Q' pc ls w o
  | none, h => h
  | some (.inl (_, _, _, _)), h => hX _ _ _ _ h
  | some (.inr (.inl _)), h => hQ _ _ h
  | some (.inr (.inr (_, _, _))), h => hc _ _ _ _ _ (fun _ _ h => hX _ _ _ _ h) h
theorem m_F_mono {cl : mC} (hc : m_mono cl) {me N0 S0 : Nat} {X X' : mX} {Q Q' : mQ} {pc : Nat} {ls : mL} {st : mS} {w : mW} (hX : ∀ pc ls st w, X pc ls st w → X' pc ls st w) (hQ : ∀ r w, Q r w → Q' r w) (h : m_F cl me N0 S0 X Q pc ls st w) : m_F cl me N0 S0 X' Q' pc ls st w := by
  unfold m_F at h ⊢
  split at h
  · exact h
  · exact m_A_mono hc hX hQ h
theorem m_R_in {cl : mC} (hc : m_mono cl) {me N0 S0 : Nat} {Q : mQ} {pc : Nat} {ls : mL} {st : mS} {w : mW} (h : m_F cl me N0 S0 (m_R cl me N0 S0 Q) Q pc ls st w) : m_R cl me N0 S0 Q pc ls st w :=
  fun X hX => hX _ _ _ _ (m_F_mono hc (fun _ _ _ _ h => h X hX) (fun _ _ h => h) h)
theorem m_R_out {cl : mC} (hc : m_mono cl) {me N0 S0 : Nat} {Q : mQ} {pc : Nat} {ls : mL} {st : mS} {w : mW} (h : m_R cl me N0 S0 Q pc ls st w) : m_F cl me N0 S0 (m_R cl me N0 S0 Q) Q pc ls st w :=
  h (fun pc ls st w => m_F cl me N0 S0 (m_R cl me N0 S0 Q) Q pc ls st w) (fun _ _ _ _ h => m_F_mono hc (fun _ _ _ _ h => m_R_in hc h) (fun _ _ h => h) h)
theorem m_R_eq {cl : mC} (hc : m_mono cl) {me N0 S0 : Nat} {Q : mQ} {pc : Nat} {ls : mL} {st : mS} {w : mW} : m_R cl me N0 S0 Q pc ls st w = m_F cl me N0 S0 (m_R cl me N0 S0 Q) Q pc ls st w := propext ⟨m_R_out hc, m_R_in hc⟩
theorem m_R_mono {cl cl' : mC} (hc : m_mono cl') (hcl : ∀ y as w Q, cl y as w Q → cl' y as w Q) {me N0 S0 : Nat} {Q Q' : mQ} (hQ : ∀ r w, Q r w → Q' r w) {pc : Nat} {ls : mL} {st : mS} {w : mW} (h : m_R cl me N0 S0 Q pc ls st w) : m_R cl' me N0 S0 Q' pc ls st w := by
  refine h (fun pc ls st w => m_R cl' me N0 S0 Q' pc ls st w) (fun pc ls st w h => m_R_in hc ?_)
  unfold m_F at h ⊢
  split at h
  · exact h
  · rename_i i hi
    generalize m_st me N0 S0 pc ls st w i = o at h
    match o, h with
    | none, h => exact h
    | some (.inl (_, _, _, _)), h => exact h
    | some (.inr (.inl _)), h => exact hQ _ _ h
    | some (.inr (.inr (_, _, _))), h => exact hcl _ _ _ _ h
def m_fpi (b : Nat) : Int32 := ([-1, 0, 0, 2, 3, 3, 3, 3, 3, 1] : List Int32).getD b 0
/-- Kinds's constructor -/
def m_pK (as : List mV) (w : mW) (Q : mQ) : Prop := match as with
  | [.inr (some k)] => w.1[k]? = some (0, 1) ∧ w.1.length < 1000000 ∧ Q none (w.1 ++ [(1, 16)], m_si (fun a b => if a = w.1.length then m_fpi b else w.2.1 a b) k 1 10, m_sr (m_zr w.2.2 w.1.length) k 0 (some w.1.length))
  | _ => False
theorem m_pK_mono {as : List mV} {w : mW} {Q Q' : mQ} (hQ : ∀ r w', Q r w' → Q' r w') (h : m_pK as w Q) : m_pK as w Q' := by
  unfold m_pK at h ⊢
  split at h
  · exact ⟨h.1, h.2.1, hQ _ _ h.2.2⟩
  · exact h.elim
/-- the methods by depth; method 1 (Kinds's constructor) is walked by hand -/
def m_E : Nat → mC
  | 0 => fun _ _ _ _ => False
  | d + 1 => fun y as w Q => if y = 1 then 2 ≤ d ∧ m_pK as w Q else if as.length ≤ m_mx y then m_R (m_E d) y w.1.length (m_sl w.1) Q 0 (as.map some ++ List.replicate (m_mx y - as.length) none) [] w else False
theorem m_E_mono : ∀ d, m_mono (m_E d)
  | 0 => fun _ _ _ _ _ _ h => h
  | d + 1 => fun y as w Q Q' hQ h => by
    unfold m_E at h ⊢
    by_cases h1 : y = 1
    · rw [if_pos h1] at h ⊢
      exact ⟨h.1, m_pK_mono hQ h.2⟩
    · rw [if_neg h1] at h ⊢
      by_cases h2 : as.length ≤ m_mx y
      · rw [if_pos h2] at h ⊢
        exact m_R_mono (m_E_mono d) (fun _ _ _ _ h => h) hQ h
      · rw [if_neg h2] at h ⊢
        exact h
/-- the length of an instruction's bytes, and that its jump goes forward from 0 -/
def m_lk (pc : Nat) (i : Jvm.ClassFile.Instr) (n : Nat) : Bool := match i with
  | .iconst _ | .aconst_null | .iload_n _ | .aload_n _ | .istore_n _ | .astore_n _ | .iadd | .isub | .imul | .iand | .dup | .pop | .dup_x1 | .dup2 | .iaload | .baload | .aaload | .iastore | .bastore | .aastore | .arraylength | .ireturn | .return_ => decide (n = 1)
  | .bipush _ | .iload _ | .aload _ | .istore _ | .astore _ | .newarray _ => decide (n = 2)
  | .sipush _ | .iinc _ _ | .getfield _ | .putfield _ | .new _ | .anewarray _ | .invokevirtual _ | .invokespecial _ | .invokestatic _ => decide (n = 3)
  | .ifCond _ off | .if_icmp _ off | .ifnull off | .ifnonnull off | .goto off => decide (n = 3) && decide (0 ≤ (pc : Int) + off)
  | .tableswitch _ _ _ _ | .lookupswitch _ _ => true
  | _ => false
end
section
/-! The small machine is sound: addresses, values, cells, the world in the heap, locals -/
def m_ad (base bS : Nat) : Nat → Nat := fun k => if k = 1000000 then bS else base + k
theorem m_ad_lt {base bS k : Nat} (h : k < 1000000) : m_ad base bS k = base + k := if_neg (Nat.ne_of_lt h)
def m_tv (ad : Nat → Nat) : mV → Value
  | .inl x => .int x
  | .inr r => va_rf (r.map ad)
theorem m_tv_cat (ad : Nat → Nat) (v : mV) : (m_tv ad v).category = 1 := by
  rcases v with x | (_ | r) <;> rfl
theorem m_cats (ad : Nat → Nat) (st : mS) : ((st.map (m_tv ad)).map fun v => v.category).sum = st.length := by
  induction st with
  | nil => rfl
  | cons a st ih =>
    rw [List.map_cons, List.map_cons, List.sum_cons, ih, m_tv_cat, List.length_cons]
    omega
def m_ce (cA : Nat → ClassId) (ad : Nat → Nat) (w : mW) (k : Nat) (h : Nat × Nat) : va_E :=
  if h.1 = 0 then .inr (h.2, (List.range (m_nf h.2)).map (fun j => m_tv ad (m_ld w h.2 k j)))
  else if h.1 ≤ 2 then .inl (cA h.1, h.2, .inl (w.2.1 k))
  else .inl (cA h.1, h.2, .inr (.inr (.inr (.inr (fun i => (w.2.2 k i).map ad)))))
theorem m_ce_congr {cA : Nat → ClassId} {ad : Nat → Nat} {w w' : mW} {k : Nat} {h : Nat × Nat} (h1 : w.2.1 k = w'.2.1 k) (h2 : w.2.2 k = w'.2.2 k) : m_ce cA ad w k h = m_ce cA ad w' k h := by
  unfold m_ce m_ld
  rw [h1, h2]
/-- the static table of the first classes' parents -/
def m_fpv : Nat → Value := fun j => .int (([-1, 0, 0, 2, 3, 3, 3, 3, 3, 1] : List Int32).getD j 0)
def m_sp (base : Nat) (U : State) (H : Heap) : Prop := ∃ t : Nat, va_Z "PropagationDesk" "FIRST_PARENTS" "[I" (.ref t) (fun q => base ≤ q) U H ∧ va_T .int t 10 m_fpv (fun q => base ≤ q) U H
theorem m_sp.moved {base : Nat} {u U : State} {H : Heap} (hvm : u.vm.Alike U.vm) (h : m_sp base u H) : m_sp base U H := by
  obtain ⟨t, h1, h2⟩ := h
  exact ⟨t, h1.moved hvm, h2.moved hvm⟩
theorem m_sp.kept {base : Nat} {U : State} {H H1 : Heap} (h : m_sp base U H) (hq : ∀ a : Nat, a < H.size → ¬ base ≤ a → H1[a]? = H[a]?) : m_sp base U H1 := by
  obtain ⟨t, h1, h2⟩ := h
  exact ⟨t, h1.kept hq, h2.kept hq⟩
def m_hd (D : va_G) (cA : Nat → ClassId) (base bS L : Nat) (U : State) (w : mW) (H : Heap) : Prop :=
  H.size = base + w.1.length ∧ w.1.length ≤ 1000000 ∧ (bS < base ∧ L < 2 ^ 31 ∧ w.2.1 1000001 0 = Int32.ofNat L ∧ va_X bS L (w.2.1 1000000) U H ∧ m_sp base U H) ∧ ∀ (k : Nat) (h : Nat × Nat), w.1[k]? = some h → va_at D mCl (base + k, m_ce cA (m_ad base bS) w k h) H
theorem m_hd.moved {D : va_G} {cA : Nat → ClassId} {base bS L : Nat} {U U' : State} {w : mW} {H : Heap} (hvm : U.vm.Alike U'.vm) (h : m_hd D cA base bS L U w H) : m_hd D cA base bS L U' w H := by
  obtain ⟨a1, a2, ⟨a3, a4, a5, a6, a8⟩, a7⟩ := h
  exact ⟨a1, a2, ⟨a3, a4, a5, a6.moved hvm, a8.moved hvm⟩, a7⟩
theorem m_hd.upd {D : va_G} {cA : Nat → ClassId} {base bS L : Nat} {U : State} {w w' : mW} {H H1 : Heap} {k : Nat} {h : Nat × Nat} (hh : m_hd D cA base bS L U w H) (hk : w.1[k]? = some h) (h1 : w'.1 = w.1) (h2 : ∀ a, a ≠ k → w'.2.1 a = w.2.1 a ∧ w'.2.2 a = w.2.2 a)
    (hz : H1.size = H.size) (ho : ∀ q, q ≠ base + k → H1[q]? = H[q]?) (he : va_at D mCl (base + k, m_ce cA (m_ad base bS) w' k h) H1) : m_hd D cA base bS L U w' H1 := by
  obtain ⟨a1, a2, ⟨a3, a4, a5, a6, a8⟩, a7⟩ := hh
  have hkl : k < w.1.length := (List.getElem?_eq_some_iff.mp hk).1
  have e1 := h2 1000000 (by omega)
  have e2 := h2 1000001 (by omega)
  refine ⟨by rw [hz, h1]; exact a1, by rw [h1]; exact a2, ⟨a3, a4, by rw [e2.1]; exact a5, by rw [e1.1]; exact a6.kept (ho bS (by omega)), a8.kept (fun a _ ha => ho a (by omega))⟩, fun k' h' hk' => ?_⟩
  rw [h1] at hk'
  by_cases hkk : k' = k
  · subst hkk
    rw [hk] at hk'
    cases hk'
    exact he
  · have h3 := a7 k' h' hk'
    rw [m_ce_congr (w' := w') (h2 k' hkk).1.symm (h2 k' hkk).2.symm] at h3
    exact h3.kept (ho _ (by show base + k' ≠ base + k; omega))
theorem m_hd.push {D : va_G} {cA : Nat → ClassId} {base bS L : Nat} {U : State} {w : mW} {H H1 : Heap} {h : Nat × Nat} (hh : m_hd D cA base bS L U w H) (hl : w.1.length < 1000000) (hz : H1.size = H.size + 1) (ho : ∀ q, q < H.size → H1[q]? = H[q]?)
    (he : va_at D mCl (base + w.1.length, m_ce cA (m_ad base bS) (w.1 ++ [h], m_zi w.2.1 w.1.length, m_zr w.2.2 w.1.length) w.1.length h) H1) : m_hd D cA base bS L U (w.1 ++ [h], m_zi w.2.1 w.1.length, m_zr w.2.2 w.1.length) H1 := by
  obtain ⟨a1, a2, ⟨a3, a4, a5, a6, a8⟩, a7⟩ := hh
  have row : ∀ a, a ≠ w.1.length → m_zi w.2.1 w.1.length a = w.2.1 a ∧ m_zr w.2.2 w.1.length a = w.2.2 a := fun a ha => ⟨funext fun b => by simp [m_zi, ha], funext fun b => by simp [m_zr, ha]⟩
  have e1 := row 1000000 (by omega)
  have e2 := row 1000001 (by omega)
  refine ⟨by rw [hz, a1, List.length_append]; simp only [List.length_cons, List.length_nil]; omega, by rw [List.length_append]; simp only [List.length_cons, List.length_nil]; omega, ⟨a3, a4, by show m_zi w.2.1 w.1.length 1000001 0 = _; rw [e2.1]; exact a5, by show va_X bS L (m_zi w.2.1 w.1.length 1000000) U H1; rw [e1.1]; exact a6.kept (ho bS (by omega)), a8.kept (fun a ha _ => ho a ha)⟩, fun k' h' hk' => ?_⟩
  by_cases hkk : k' < w.1.length
  · have hk2 : w.1[k']? = some h' := by rw [← hk']; exact (List.getElem?_append_left hkk).symm
    have h3 := a7 k' h' hk2
    rw [m_ce_congr (w' := (w.1 ++ [h], m_zi w.2.1 w.1.length, m_zr w.2.2 w.1.length)) (row k' (by omega)).1.symm (row k' (by omega)).2.symm] at h3
    exact h3.kept (ho _ (by show base + k' < H.size; omega))
  · have hk2 : (w.1 ++ [h])[k']? = some h' := hk'
    rw [List.getElem?_append_right (by omega)] at hk2
    have hz : k' - w.1.length < 1 := (List.getElem?_eq_some_iff.mp hk2).1
    have hke : k' = w.1.length := by omega
    subst hke
    rw [Nat.sub_self] at hk2
    cases hk2
    exact he
/-- the locals -/
def m_lh (ad : Nat → Nat) (nL : Nat) (ls : mL) (lsA : Array Slot) : Prop := lv_has lsA nL [] ∧ ∀ (i : Nat) (v : mV), ls[i]? = some (some v) → lsA[i]? = some (.val (m_tv ad v))
def m_lq (ad : Nat → Nat) (ls : mL) (i : Nat) : Option (Nat × Value) := match ls[i]? with
  | some (some v) => some (i, m_tv ad v)
  | _ => none
def m_lv (ad : Nat → Nat) (ls : mL) : List (Nat × Value) := (List.range ls.length).filterMap (m_lq ad ls)
theorem m_lq_some {ad : Nat → Nat} {ls : mL} {i : Nat} {q : Nat × Value} (h : m_lq ad ls i = some q) : q.1 = i ∧ ∃ v, ls[i]? = some (some v) ∧ q.2 = m_tv ad v := by
  unfold m_lq at h
  split at h
  · rename_i v hv
    cases h
    exact ⟨rfl, v, hv, rfl⟩
  · cases h
theorem m_lv_mem {ad : Nat → Nat} {ls : mL} {i : Nat} {v : mV} (h : ls[i]? = some (some v)) : (i, m_tv ad v) ∈ m_lv ad ls := by
  refine List.mem_filterMap.mpr ⟨i, List.mem_range.mpr (List.getElem?_eq_some_iff.mp h).1, ?_⟩
  unfold m_lq
  rw [h]
theorem m_lh.has {ad : Nat → Nat} {nL : Nat} {ls : mL} {lsA : Array Slot} (h : m_lh ad nL ls lsA) : lv_has lsA nL (m_lv ad ls) := by
  refine ⟨h.1.1, h.1.2.1, fun q hq => ?_⟩
  obtain ⟨i, -, hi⟩ := List.mem_filterMap.mp hq
  obtain ⟨e1, v, hv, e2⟩ := m_lq_some hi
  rw [e1, e2]
  exact h.2 i v hv
theorem m_lh.store {ad : Nat → Nat} {nL : Nat} {ls : mL} {ls' : Array Slot} {i : Nat} {v : mV} (h : lv_has ls' nL ((i, m_tv ad v) :: (m_lv ad ls).filter (fun q => !(q.1 == i) && !(q.1 + 1 == i && q.2.category == 2)))) : m_lh ad nL (ls.set i (some v)) ls' := by
  refine ⟨⟨h.1, h.2.1, fun q hq => by cases hq⟩, fun j u hj => ?_⟩
  by_cases hji : j = i
  · subst hji
    have hl : j < (ls.set j (some v)).length := (List.getElem?_eq_some_iff.mp hj).1
    rw [List.length_set] at hl
    rw [List.getElem?_set_self hl] at hj
    cases hj
    exact h.2.2 (j, m_tv ad v) List.mem_cons_self
  · rw [List.getElem?_set_ne (Ne.symm hji)] at hj
    refine h.2.2 (j, m_tv ad u) (List.mem_cons_of_mem _ (List.mem_filter.mpr ⟨m_lv_mem hj, ?_⟩))
    simp [hji, m_tv_cat]
theorem m_lh.entry {ad : Nat → Nat} {n : Nat} (as : List mV) (h : as.length ≤ n) : (lg_sl (as.map (m_tv ad))).length ≤ n ∧ ∀ lsA : Array Slot, lv_has lsA n (lv_args 0 (as.map (m_tv ad))) → m_lh ad n (as.map some ++ List.replicate (n - as.length) none) lsA := by
  have hl : ∀ (i : Nat) (as : List mV) (j : Nat) (v : mV), as[j]? = some v → (i + j, m_tv ad v) ∈ lv_args i (as.map (m_tv ad)) := by
    intro i as
    induction as generalizing i with
    | nil => intro j v h; simp at h
    | cons a as ih =>
      intro j v hj
      show _ ∈ (i, m_tv ad a) :: lv_args (if (m_tv ad a).category = 2 then i + 2 else i + 1) (as.map (m_tv ad))
      rw [m_tv_cat, if_neg (by decide)]
      cases j with
      | zero =>
        rw [List.getElem?_cons_zero] at hj
        cases hj
        exact List.mem_cons_self
      | succ j =>
        rw [List.getElem?_cons_succ] at hj
        have := ih (i + 1) j v hj
        rw [show i + 1 + j = i + (j + 1) by omega] at this
        exact List.mem_cons_of_mem _ this
  have hs : ∀ as : List mV, (lg_sl (as.map (m_tv ad))).length = as.length := by
    intro as
    induction as with
    | nil => rfl
    | cons a as ih =>
      rcases a with x | (_ | r)
      · show (lg_sl (Value.int x :: as.map (m_tv ad))).length = _
        simp only [lg_sl, List.flatMap_cons, List.length_append] at ih ⊢
        rw [ih]
        simp [Value.category]
        try omega
      · show (lg_sl (Value.null :: as.map (m_tv ad))).length = _
        simp only [lg_sl, List.flatMap_cons, List.length_append] at ih ⊢
        rw [ih]
        simp [Value.category]
        try omega
      · show (lg_sl (Value.ref (ad r) :: as.map (m_tv ad))).length = _
        simp only [lg_sl, List.flatMap_cons, List.length_append] at ih ⊢
        rw [ih]
        simp [Value.category]
        try omega
  refine ⟨by rw [hs]; exact h, fun lsA hA => ⟨⟨hA.1, hA.2.1, fun q hq => by cases hq⟩, fun i v hi => ?_⟩⟩
  by_cases hil : i < as.length
  · rw [List.getElem?_append_left (by rw [List.length_map]; exact hil), List.getElem?_map] at hi
    cases ha : as[i]? with
    | none => rw [ha] at hi; cases hi
    | some u =>
      rw [ha] at hi
      cases hi
      have := hl 0 as i v ha
      rw [Nat.zero_add] at this
      exact hA.2.2 _ this
  · rw [List.getElem?_append_right (by rw [List.length_map]; omega)] at hi
    have := List.eq_of_mem_replicate (List.mem_of_getElem? hi)
    cases this
/-- the machine's own judgement at a state of the small machine -/
def m_V (D : va_G) (cA : Nat → ClassId) (base bS L : Nat) (p : Program) (l : Launch) (e : Env) (R : Room) (s : State) (m : MethodId) (args : Array Value) (below : List Frame) (meth : Method) (c : Code) (nL N0 S0 : Nat) (QQ : State → Prop) (pc : Nat) (ls : mL) (st : mS) (w : mW) : Prop :=
  ls.length = nL → N0 ≤ w.1.length → S0 ≤ m_sl w.1 → ∀ (H : Heap) (locs : List Loc) (lsA : Array Slot), m_lh (m_ad base bS) nL ls lsA → m_hd D cA base bS L s w H → va_S (fun q => base ≤ q) s.heap H locs → W p l e R s m args below meth c H locs (w.1.length - N0) (m_sl w.1 - S0) QQ (F0 m pc lsA (st.map (m_tv (m_ad base bS))))
section MV
variable {D : va_G} {cA : Nat → ClassId} {base bS L : Nat} {p : Program} {l : Launch} {e : Env} {R : Room} {s : State} {m : MethodId} {args : Array Value} {below : List Frame} {meth : Method} {c : Code} {nL N0 S0 : Nat} {QQ : State → Prop} {pc : Nat} {ls : mL} {st : mS} {w : mW} {cc : ByteArray}
theorem mv_iconst (hx : p.tables.exec = Jvm.exec) (hb : c.code = cc) {n : Int} (hd : decode cc pc = .ok (.iconst n, 1)) (k : m_V D cA base bS L p l e R s m args below meth c nL N0 S0 QQ (pc + 1) ls (.inl (Int32.ofInt n) :: st) w) : m_V D cA base bS L p l e R s m args below meth c nL N0 S0 QQ pc ls st w :=
  fun h1 h2 h3 H locs lsA hl hh hS => lv_iconst hx hb hd rfl (k h1 h2 h3 H locs lsA hl hh hS)
theorem mv_bipush (hx : p.tables.exec = Jvm.exec) (hb : c.code = cc) {n : Int} (hd : decode cc pc = .ok (.bipush n, 2)) (k : m_V D cA base bS L p l e R s m args below meth c nL N0 S0 QQ (pc + 2) ls (.inl (Int8.ofInt n).toInt32 :: st) w) : m_V D cA base bS L p l e R s m args below meth c nL N0 S0 QQ pc ls st w :=
  fun h1 h2 h3 H locs lsA hl hh hS => lv_bipush hx hb hd rfl (k h1 h2 h3 H locs lsA hl hh hS)
theorem mv_sipush (hx : p.tables.exec = Jvm.exec) (hb : c.code = cc) {n : Int} (hd : decode cc pc = .ok (.sipush n, 3)) (k : m_V D cA base bS L p l e R s m args below meth c nL N0 S0 QQ (pc + 3) ls (.inl (Int16.ofInt n).toInt32 :: st) w) : m_V D cA base bS L p l e R s m args below meth c nL N0 S0 QQ pc ls st w :=
  fun h1 h2 h3 H locs lsA hl hh hS => lv_sipush hx hb hd rfl (k h1 h2 h3 H locs lsA hl hh hS)
theorem mv_null (hx : p.tables.exec = Jvm.exec) (hb : c.code = cc) (hd : decode cc pc = .ok (.aconst_null, 1)) (k : m_V D cA base bS L p l e R s m args below meth c nL N0 S0 QQ (pc + 1) ls (.inr none :: st) w) : m_V D cA base bS L p l e R s m args below meth c nL N0 S0 QQ pc ls st w :=
  fun h1 h2 h3 H locs lsA hl hh hS => lv_null hx hb hd (k h1 h2 h3 H locs lsA hl hh hS)
theorem mv_iload_n (hx : p.tables.exec = Jvm.exec) (hb : c.code = cc) {i : Fin 4} {x : Int32} (hd : decode cc pc = .ok (.iload_n i, 1)) (hi : ls[i.val]? = some (some (.inl x))) (k : m_V D cA base bS L p l e R s m args below meth c nL N0 S0 QQ (pc + 1) ls (.inl x :: st) w) : m_V D cA base bS L p l e R s m args below meth c nL N0 S0 QQ pc ls st w :=
  fun h1 h2 h3 H locs lsA hl hh hS => lv_iload_n hx hb hd rfl (hl.2 _ _ hi) (k h1 h2 h3 H locs lsA hl hh hS)
theorem mv_iload (hx : p.tables.exec = Jvm.exec) (hb : c.code = cc) {i : Nat} {x : Int32} (hd : decode cc pc = .ok (.iload i, 2)) (hi : ls[i]? = some (some (.inl x))) (k : m_V D cA base bS L p l e R s m args below meth c nL N0 S0 QQ (pc + 2) ls (.inl x :: st) w) : m_V D cA base bS L p l e R s m args below meth c nL N0 S0 QQ pc ls st w :=
  fun h1 h2 h3 H locs lsA hl hh hS => lv_iload hx hb hd (hl.2 _ _ hi) (k h1 h2 h3 H locs lsA hl hh hS)
theorem mv_aload_n (hx : p.tables.exec = Jvm.exec) (hb : c.code = cc) {i : Fin 4} {x : Option Nat} (hd : decode cc pc = .ok (.aload_n i, 1)) (hi : ls[i.val]? = some (some (.inr x))) (k : m_V D cA base bS L p l e R s m args below meth c nL N0 S0 QQ (pc + 1) ls (.inr x :: st) w) : m_V D cA base bS L p l e R s m args below meth c nL N0 S0 QQ pc ls st w := by
  intro h1 h2 h3 H locs lsA hl hh hS
  cases x with
  | none => exact lv_aload_nN hx hb hd rfl (hl.2 _ _ hi) (k h1 h2 h3 H locs lsA hl hh hS)
  | some x => exact lv_aload_n hx hb hd rfl (hl.2 _ _ hi) (k h1 h2 h3 H locs lsA hl hh hS)
theorem mv_aload (hx : p.tables.exec = Jvm.exec) (hb : c.code = cc) {i : Nat} {x : Option Nat} (hd : decode cc pc = .ok (.aload i, 2)) (hi : ls[i]? = some (some (.inr x))) (k : m_V D cA base bS L p l e R s m args below meth c nL N0 S0 QQ (pc + 2) ls (.inr x :: st) w) : m_V D cA base bS L p l e R s m args below meth c nL N0 S0 QQ pc ls st w := by
  intro h1 h2 h3 H locs lsA hl hh hS
  cases x with
  | none => exact lv_aloadN hx hb hd (hl.2 _ _ hi) (k h1 h2 h3 H locs lsA hl hh hS)
  | some x => exact lv_aload hx hb hd (hl.2 _ _ hi) (k h1 h2 h3 H locs lsA hl hh hS)
theorem mv_istore_n (hx : p.tables.exec = Jvm.exec) (hb : c.code = cc) {i : Fin 4} {x : Int32} (hd : decode cc pc = .ok (.istore_n i, 1)) (hi : i.val < ls.length) (k : m_V D cA base bS L p l e R s m args below meth c nL N0 S0 QQ (pc + 1) (ls.set i.val (some (.inl x))) st w) : m_V D cA base bS L p l e R s m args below meth c nL N0 S0 QQ pc ls (.inl x :: st) w :=
  fun h1 h2 h3 H locs _ hl hh hS => lv_istore_n hx hb hd rfl hl.has (h1 ▸ hi) rfl (fun ls' hl' => k (by rw [List.length_set]; exact h1) h2 h3 H locs ls' (m_lh.store (v := .inl x) hl') hh hS)
theorem mv_istore (hx : p.tables.exec = Jvm.exec) (hb : c.code = cc) {i : Nat} {x : Int32} (hd : decode cc pc = .ok (.istore i, 2)) (hi : i < ls.length) (k : m_V D cA base bS L p l e R s m args below meth c nL N0 S0 QQ (pc + 2) (ls.set i (some (.inl x))) st w) : m_V D cA base bS L p l e R s m args below meth c nL N0 S0 QQ pc ls (.inl x :: st) w :=
  fun h1 h2 h3 H locs _ hl hh hS => lv_istore hx hb hd hl.has (h1 ▸ hi) rfl (fun ls' hl' => k (by rw [List.length_set]; exact h1) h2 h3 H locs ls' (m_lh.store (v := .inl x) hl') hh hS)
theorem mv_astore_n (hx : p.tables.exec = Jvm.exec) (hb : c.code = cc) {i : Fin 4} {x : Option Nat} (hd : decode cc pc = .ok (.astore_n i, 1)) (hi : i.val < ls.length) (k : m_V D cA base bS L p l e R s m args below meth c nL N0 S0 QQ (pc + 1) (ls.set i.val (some (.inr x))) st w) : m_V D cA base bS L p l e R s m args below meth c nL N0 S0 QQ pc ls (.inr x :: st) w := by
  intro h1 h2 h3 H locs lsA hl hh hS
  cases x with
  | none => exact lv_astore_nN hx hb hd rfl hl.has (h1 ▸ hi) rfl (fun ls' hl' => k (by rw [List.length_set]; exact h1) h2 h3 H locs ls' (m_lh.store (v := .inr none) hl') hh hS)
  | some x => exact lv_astore_n hx hb hd rfl hl.has (h1 ▸ hi) rfl (fun ls' hl' => k (by rw [List.length_set]; exact h1) h2 h3 H locs ls' (m_lh.store (v := .inr (some x)) hl') hh hS)
theorem mv_astore (hx : p.tables.exec = Jvm.exec) (hb : c.code = cc) {i : Nat} {x : Option Nat} (hd : decode cc pc = .ok (.astore i, 2)) (hi : i < ls.length) (k : m_V D cA base bS L p l e R s m args below meth c nL N0 S0 QQ (pc + 2) (ls.set i (some (.inr x))) st w) : m_V D cA base bS L p l e R s m args below meth c nL N0 S0 QQ pc ls (.inr x :: st) w := by
  intro h1 h2 h3 H locs lsA hl hh hS
  cases x with
  | none => exact lv_astoreN hx hb hd hl.has (h1 ▸ hi) rfl (fun ls' hl' => k (by rw [List.length_set]; exact h1) h2 h3 H locs ls' (m_lh.store (v := .inr none) hl') hh hS)
  | some x => exact lv_astore hx hb hd hl.has (h1 ▸ hi) rfl (fun ls' hl' => k (by rw [List.length_set]; exact h1) h2 h3 H locs ls' (m_lh.store (v := .inr (some x)) hl') hh hS)
theorem mv_iinc (hx : p.tables.exec = Jvm.exec) (hb : c.code = cc) {i : Nat} {n : Int} {x : Int32} (hd : decode cc pc = .ok (.iinc i n, 3)) (hi : ls[i]? = some (some (.inl x))) (k : m_V D cA base bS L p l e R s m args below meth c nL N0 S0 QQ (pc + 3) (ls.set i (some (.inl (x + Int32.ofInt n)))) st w) : m_V D cA base bS L p l e R s m args below meth c nL N0 S0 QQ pc ls st w := by
  intro h1 h2 h3 H locs lsA hl hh hS
  have hlt : i < ls.length := (List.getElem?_eq_some_iff.mp hi).1
  obtain ⟨j, hj⟩ := List.getElem?_of_mem (m_lv_mem (ad := m_ad base bS) hi)
  exact lv_iinc (x := x) (k := j) hx hb hd hl.has hj rfl (h1 ▸ hlt) rfl (fun ls' hl' => k (by rw [List.length_set]; exact h1) h2 h3 H locs ls' (m_lh.store (v := .inl (x + Int32.ofInt n)) hl') hh hS)
theorem mv_iadd (hx : p.tables.exec = Jvm.exec) (hb : c.code = cc) {x y : Int32} (hd : decode cc pc = .ok (.iadd, 1)) (k : m_V D cA base bS L p l e R s m args below meth c nL N0 S0 QQ (pc + 1) ls (.inl (x + y) :: st) w) : m_V D cA base bS L p l e R s m args below meth c nL N0 S0 QQ pc ls (.inl y :: .inl x :: st) w :=
  fun h1 h2 h3 H locs lsA hl hh hS => lv_iadd hx hb hd (k h1 h2 h3 H locs lsA hl hh hS)
theorem mv_isub (hx : p.tables.exec = Jvm.exec) (hb : c.code = cc) {x y : Int32} (hd : decode cc pc = .ok (.isub, 1)) (k : m_V D cA base bS L p l e R s m args below meth c nL N0 S0 QQ (pc + 1) ls (.inl (x - y) :: st) w) : m_V D cA base bS L p l e R s m args below meth c nL N0 S0 QQ pc ls (.inl y :: .inl x :: st) w :=
  fun h1 h2 h3 H locs lsA hl hh hS => lv_isub hx hb hd (k h1 h2 h3 H locs lsA hl hh hS)
theorem mv_imul (hx : p.tables.exec = Jvm.exec) (hb : c.code = cc) {x y : Int32} (hd : decode cc pc = .ok (.imul, 1)) (k : m_V D cA base bS L p l e R s m args below meth c nL N0 S0 QQ (pc + 1) ls (.inl (x * y) :: st) w) : m_V D cA base bS L p l e R s m args below meth c nL N0 S0 QQ pc ls (.inl y :: .inl x :: st) w :=
  fun h1 h2 h3 H locs lsA hl hh hS => lv_imul hx hb hd (k h1 h2 h3 H locs lsA hl hh hS)
theorem mv_iand (hx : p.tables.exec = Jvm.exec) (hb : c.code = cc) {x y : Int32} (hd : decode cc pc = .ok (.iand, 1)) (k : m_V D cA base bS L p l e R s m args below meth c nL N0 S0 QQ (pc + 1) ls (.inl (x &&& y) :: st) w) : m_V D cA base bS L p l e R s m args below meth c nL N0 S0 QQ pc ls (.inl y :: .inl x :: st) w :=
  fun h1 h2 h3 H locs lsA hl hh hS => lv_iand hx hb hd (k h1 h2 h3 H locs lsA hl hh hS)
theorem mv_dup (hx : p.tables.exec = Jvm.exec) (hb : c.code = cc) {v : mV} (hd : decode cc pc = .ok (.dup, 1)) (k : m_V D cA base bS L p l e R s m args below meth c nL N0 S0 QQ (pc + 1) ls (v :: v :: st) w) : m_V D cA base bS L p l e R s m args below meth c nL N0 S0 QQ pc ls (v :: st) w :=
  fun h1 h2 h3 H locs lsA hl hh hS => lv_dup hx hb hd (m_tv_cat _ v) (k h1 h2 h3 H locs lsA hl hh hS)
theorem mv_pop (hx : p.tables.exec = Jvm.exec) (hb : c.code = cc) {v : mV} (hd : decode cc pc = .ok (.pop, 1)) (k : m_V D cA base bS L p l e R s m args below meth c nL N0 S0 QQ (pc + 1) ls st w) : m_V D cA base bS L p l e R s m args below meth c nL N0 S0 QQ pc ls (v :: st) w :=
  fun h1 h2 h3 H locs lsA hl hh hS => lv_pop hx hb hd (m_tv_cat _ v) (k h1 h2 h3 H locs lsA hl hh hS)
theorem mv_dup_x1 (hx : p.tables.exec = Jvm.exec) (hb : c.code = cc) {v u : mV} (hd : decode cc pc = .ok (.dup_x1, 1)) (k : m_V D cA base bS L p l e R s m args below meth c nL N0 S0 QQ (pc + 1) ls (v :: u :: v :: st) w) : m_V D cA base bS L p l e R s m args below meth c nL N0 S0 QQ pc ls (v :: u :: st) w :=
  fun h1 h2 h3 H locs lsA hl hh hS => lv_dup_x1 hx hb hd (m_tv_cat _ v) (m_tv_cat _ u) (k h1 h2 h3 H locs lsA hl hh hS)
theorem mv_dup2 (hx : p.tables.exec = Jvm.exec) (hb : c.code = cc) {v u : mV} (hd : decode cc pc = .ok (.dup2, 1)) (k : m_V D cA base bS L p l e R s m args below meth c nL N0 S0 QQ (pc + 1) ls (v :: u :: v :: u :: st) w) : m_V D cA base bS L p l e R s m args below meth c nL N0 S0 QQ pc ls (v :: u :: st) w :=
  fun h1 h2 h3 H locs lsA hl hh hS => lv_dup2_11 hx hb hd (m_tv_cat _ v) (m_tv_cat _ u) (k h1 h2 h3 H locs lsA hl hh hS)
theorem mv_if (hx : p.tables.exec = Jvm.exec) (hb : c.code = cc) {cn : Jvm.ClassFile.Cond} {off : Int} {t : Nat} {x : Int32} (hd : decode cc pc = .ok (.ifCond cn off, 3)) (ht : (pc : Int) + off = (t : Int)) {cl : mC} {Q : mQ} {ls0 : mL} {w0 : mW} {pc0 : Nat} (k : m_A cl (fun pc ls st w => m_V D cA base bS L p l e R s m args below meth c nL N0 S0 QQ pc ls st w) Q pc0 ls0 w0 (m_if cn x 0 (m_go t ls st w) (m_go (pc + 3) ls st w))) : m_V D cA base bS L p l e R s m args below meth c nL N0 S0 QQ pc ls (.inl x :: st) w := by
  intro h1 h2 h3 H locs lsA hl hh hS
  cases cn with
  | eq =>
    change m_A cl (fun pc ls st w => m_V D cA base bS L p l e R s m args below meth c nL N0 S0 QQ pc ls st w) Q pc0 ls0 w0 (if x = 0 then m_go t ls st w else m_go (pc + 3) ls st w) at k
    by_cases hc : x = 0
    · rw [if_pos hc] at k
      exact lv_if_eq hx hb hd ht (fun _ => k h1 h2 h3 H locs lsA hl hh hS) (fun h => absurd hc h)
    · rw [if_neg hc] at k
      exact lv_if_eq hx hb hd ht (fun h => absurd h hc) (fun _ => k h1 h2 h3 H locs lsA hl hh hS)
  | ne =>
    change m_A cl (fun pc ls st w => m_V D cA base bS L p l e R s m args below meth c nL N0 S0 QQ pc ls st w) Q pc0 ls0 w0 (if x = 0 then m_go (pc + 3) ls st w else m_go t ls st w) at k
    by_cases hc : x = 0
    · rw [if_pos hc] at k
      exact lv_if_ne hx hb hd ht (fun h => absurd hc h) (fun _ => k h1 h2 h3 H locs lsA hl hh hS)
    · rw [if_neg hc] at k
      exact lv_if_ne hx hb hd ht (fun _ => k h1 h2 h3 H locs lsA hl hh hS) (fun h => absurd h hc)
  | lt =>
    change m_A cl (fun pc ls st w => m_V D cA base bS L p l e R s m args below meth c nL N0 S0 QQ pc ls st w) Q pc0 ls0 w0 (if x < 0 then m_go t ls st w else m_go (pc + 3) ls st w) at k
    by_cases hc : x < 0
    · rw [if_pos hc] at k
      exact lv_if_lt hx hb hd ht (fun _ => k h1 h2 h3 H locs lsA hl hh hS) (fun h => absurd hc h)
    · rw [if_neg hc] at k
      exact lv_if_lt hx hb hd ht (fun h => absurd h hc) (fun _ => k h1 h2 h3 H locs lsA hl hh hS)
  | ge =>
    change m_A cl (fun pc ls st w => m_V D cA base bS L p l e R s m args below meth c nL N0 S0 QQ pc ls st w) Q pc0 ls0 w0 (if 0 ≤ x then m_go t ls st w else m_go (pc + 3) ls st w) at k
    by_cases hc : 0 ≤ x
    · rw [if_pos hc] at k
      exact lv_if_ge hx hb hd ht (fun _ => k h1 h2 h3 H locs lsA hl hh hS) (fun h => absurd hc h)
    · rw [if_neg hc] at k
      exact lv_if_ge hx hb hd ht (fun h => absurd h hc) (fun _ => k h1 h2 h3 H locs lsA hl hh hS)
  | gt =>
    change m_A cl (fun pc ls st w => m_V D cA base bS L p l e R s m args below meth c nL N0 S0 QQ pc ls st w) Q pc0 ls0 w0 (if 0 < x then m_go t ls st w else m_go (pc + 3) ls st w) at k
    by_cases hc : 0 < x
    · rw [if_pos hc] at k
      exact lv_if_gt hx hb hd ht (fun _ => k h1 h2 h3 H locs lsA hl hh hS) (fun h => absurd hc h)
    · rw [if_neg hc] at k
      exact lv_if_gt hx hb hd ht (fun h => absurd h hc) (fun _ => k h1 h2 h3 H locs lsA hl hh hS)
  | le =>
    change m_A cl (fun pc ls st w => m_V D cA base bS L p l e R s m args below meth c nL N0 S0 QQ pc ls st w) Q pc0 ls0 w0 (if x ≤ 0 then m_go t ls st w else m_go (pc + 3) ls st w) at k
    by_cases hc : x ≤ 0
    · rw [if_pos hc] at k
      exact lv_if_le hx hb hd ht (fun _ => k h1 h2 h3 H locs lsA hl hh hS) (fun h => absurd hc h)
    · rw [if_neg hc] at k
      exact lv_if_le hx hb hd ht (fun h => absurd h hc) (fun _ => k h1 h2 h3 H locs lsA hl hh hS)
theorem mv_icmp (hx : p.tables.exec = Jvm.exec) (hb : c.code = cc) {cn : Jvm.ClassFile.Cond} {off : Int} {t : Nat} {x y : Int32} (hd : decode cc pc = .ok (.if_icmp cn off, 3)) (ht : (pc : Int) + off = (t : Int)) {cl : mC} {Q : mQ} {ls0 : mL} {w0 : mW} {pc0 : Nat} (k : m_A cl (fun pc ls st w => m_V D cA base bS L p l e R s m args below meth c nL N0 S0 QQ pc ls st w) Q pc0 ls0 w0 (m_if cn x y (m_go t ls st w) (m_go (pc + 3) ls st w))) : m_V D cA base bS L p l e R s m args below meth c nL N0 S0 QQ pc ls (.inl y :: .inl x :: st) w := by
  intro h1 h2 h3 H locs lsA hl hh hS
  cases cn with
  | eq =>
    change m_A cl (fun pc ls st w => m_V D cA base bS L p l e R s m args below meth c nL N0 S0 QQ pc ls st w) Q pc0 ls0 w0 (if x = y then m_go t ls st w else m_go (pc + 3) ls st w) at k
    by_cases hc : x = y
    · rw [if_pos hc] at k
      exact lv_icmp_eq hx hb hd ht (fun _ => k h1 h2 h3 H locs lsA hl hh hS) (fun h => absurd hc h)
    · rw [if_neg hc] at k
      exact lv_icmp_eq hx hb hd ht (fun h => absurd h hc) (fun _ => k h1 h2 h3 H locs lsA hl hh hS)
  | ne =>
    change m_A cl (fun pc ls st w => m_V D cA base bS L p l e R s m args below meth c nL N0 S0 QQ pc ls st w) Q pc0 ls0 w0 (if x = y then m_go (pc + 3) ls st w else m_go t ls st w) at k
    by_cases hc : x = y
    · rw [if_pos hc] at k
      exact lv_icmp_ne hx hb hd ht (fun h => absurd hc h) (fun _ => k h1 h2 h3 H locs lsA hl hh hS)
    · rw [if_neg hc] at k
      exact lv_icmp_ne hx hb hd ht (fun _ => k h1 h2 h3 H locs lsA hl hh hS) (fun h => absurd h hc)
  | lt =>
    change m_A cl (fun pc ls st w => m_V D cA base bS L p l e R s m args below meth c nL N0 S0 QQ pc ls st w) Q pc0 ls0 w0 (if x < y then m_go t ls st w else m_go (pc + 3) ls st w) at k
    by_cases hc : x < y
    · rw [if_pos hc] at k
      exact lv_icmp_lt hx hb hd ht (fun _ => k h1 h2 h3 H locs lsA hl hh hS) (fun h => absurd hc h)
    · rw [if_neg hc] at k
      exact lv_icmp_lt hx hb hd ht (fun h => absurd h hc) (fun _ => k h1 h2 h3 H locs lsA hl hh hS)
  | ge =>
    change m_A cl (fun pc ls st w => m_V D cA base bS L p l e R s m args below meth c nL N0 S0 QQ pc ls st w) Q pc0 ls0 w0 (if y ≤ x then m_go t ls st w else m_go (pc + 3) ls st w) at k
    by_cases hc : y ≤ x
    · rw [if_pos hc] at k
      exact lv_icmp_ge hx hb hd ht (fun _ => k h1 h2 h3 H locs lsA hl hh hS) (fun h => absurd hc h)
    · rw [if_neg hc] at k
      exact lv_icmp_ge hx hb hd ht (fun h => absurd h hc) (fun _ => k h1 h2 h3 H locs lsA hl hh hS)
  | gt =>
    change m_A cl (fun pc ls st w => m_V D cA base bS L p l e R s m args below meth c nL N0 S0 QQ pc ls st w) Q pc0 ls0 w0 (if y < x then m_go t ls st w else m_go (pc + 3) ls st w) at k
    by_cases hc : y < x
    · rw [if_pos hc] at k
      exact lv_icmp_gt hx hb hd ht (fun _ => k h1 h2 h3 H locs lsA hl hh hS) (fun h => absurd hc h)
    · rw [if_neg hc] at k
      exact lv_icmp_gt hx hb hd ht (fun h => absurd h hc) (fun _ => k h1 h2 h3 H locs lsA hl hh hS)
  | le =>
    change m_A cl (fun pc ls st w => m_V D cA base bS L p l e R s m args below meth c nL N0 S0 QQ pc ls st w) Q pc0 ls0 w0 (if x ≤ y then m_go t ls st w else m_go (pc + 3) ls st w) at k
    by_cases hc : x ≤ y
    · rw [if_pos hc] at k
      exact lv_icmp_le hx hb hd ht (fun _ => k h1 h2 h3 H locs lsA hl hh hS) (fun h => absurd hc h)
    · rw [if_neg hc] at k
      exact lv_icmp_le hx hb hd ht (fun h => absurd h hc) (fun _ => k h1 h2 h3 H locs lsA hl hh hS)
theorem mv_ifnull (hx : p.tables.exec = Jvm.exec) (hb : c.code = cc) {off : Int} {k : Nat} (hd : decode cc pc = .ok (.ifnull off, 3)) (kk : m_V D cA base bS L p l e R s m args below meth c nL N0 S0 QQ (pc + 3) ls st w) : m_V D cA base bS L p l e R s m args below meth c nL N0 S0 QQ pc ls (.inr (some k) :: st) w :=
  fun h1 h2 h3 H locs lsA hl hh hS => lv_ifnull hx hb hd (kk h1 h2 h3 H locs lsA hl hh hS)
theorem mv_ifnullN (hx : p.tables.exec = Jvm.exec) (hb : c.code = cc) {off : Int} {t : Nat} (hd : decode cc pc = .ok (.ifnull off, 3)) (ht : (pc : Int) + off = (t : Int)) (kk : m_V D cA base bS L p l e R s m args below meth c nL N0 S0 QQ t ls st w) : m_V D cA base bS L p l e R s m args below meth c nL N0 S0 QQ pc ls (.inr none :: st) w :=
  fun h1 h2 h3 H locs lsA hl hh hS => lv_ifnullN hx hb hd ht (kk h1 h2 h3 H locs lsA hl hh hS)
theorem mv_ifnonnull (hx : p.tables.exec = Jvm.exec) (hb : c.code = cc) {off : Int} {t k : Nat} (hd : decode cc pc = .ok (.ifnonnull off, 3)) (ht : (pc : Int) + off = (t : Int)) (kk : m_V D cA base bS L p l e R s m args below meth c nL N0 S0 QQ t ls st w) : m_V D cA base bS L p l e R s m args below meth c nL N0 S0 QQ pc ls (.inr (some k) :: st) w :=
  fun h1 h2 h3 H locs lsA hl hh hS => lv_ifnonnull hx hb hd ht (kk h1 h2 h3 H locs lsA hl hh hS)
theorem mv_ifnonnullN (hx : p.tables.exec = Jvm.exec) (hb : c.code = cc) {off : Int} (hd : decode cc pc = .ok (.ifnonnull off, 3)) (kk : m_V D cA base bS L p l e R s m args below meth c nL N0 S0 QQ (pc + 3) ls st w) : m_V D cA base bS L p l e R s m args below meth c nL N0 S0 QQ pc ls (.inr none :: st) w :=
  fun h1 h2 h3 H locs lsA hl hh hS => lv_ifnonnullN hx hb hd (kk h1 h2 h3 H locs lsA hl hh hS)
theorem mv_goto (hx : p.tables.exec = Jvm.exec) (hb : c.code = cc) {off : Int} {t : Nat} (hd : decode cc pc = .ok (.goto off, 3)) (ht : (pc : Int) + off = (t : Int)) (kk : m_V D cA base bS L p l e R s m args below meth c nL N0 S0 QQ t ls st w) : m_V D cA base bS L p l e R s m args below meth c nL N0 S0 QQ pc ls st w :=
  fun h1 h2 h3 H locs lsA hl hh hS => lv_goto hx hb hd ht (kk h1 h2 h3 H locs lsA hl hh hS)
theorem mv_tableOut (hx : p.tables.exec = Jvm.exec) (hb : c.code = cc) {d lo hi : Int} {offs : Array Int} {n t : Nat} {x : Int32} (hd : decode cc pc = .ok (.tableswitch d lo hi offs, n)) (h : x.toInt < lo ∨ hi < x.toInt) (ht : (pc : Int) + d = (t : Int)) (kk : m_V D cA base bS L p l e R s m args below meth c nL N0 S0 QQ t ls st w) : m_V D cA base bS L p l e R s m args below meth c nL N0 S0 QQ pc ls (.inl x :: st) w :=
  fun h1 h2 h3 H locs lsA hl hh hS => lv_tableOut hx hb hd h ht (kk h1 h2 h3 H locs lsA hl hh hS)
theorem mv_tableIn (hx : p.tables.exec = Jvm.exec) (hb : c.code = cc) {d lo hi off : Int} {offs : Array Int} {n t : Nat} {x : Int32} (hd : decode cc pc = .ok (.tableswitch d lo hi offs, n)) (h : ¬ (x.toInt < lo ∨ hi < x.toInt)) (ho : offs[(x.toInt - lo).toNat]? = some off) (ht : (pc : Int) + off = (t : Int)) (kk : m_V D cA base bS L p l e R s m args below meth c nL N0 S0 QQ t ls st w) : m_V D cA base bS L p l e R s m args below meth c nL N0 S0 QQ pc ls (.inl x :: st) w :=
  fun h1 h2 h3 H locs lsA hl hh hS => lv_tableIn hx hb hd (fun q => h (Or.inl q)) (fun q => h (Or.inr q)) ho ht (kk h1 h2 h3 H locs lsA hl hh hS)
theorem mv_lookup (hx : p.tables.exec = Jvm.exec) (hb : c.code = cc) {d : Int} {ps : Array (Int × Int)} {n t : Nat} {x : Int32} (hd : decode cc pc = .ok (.lookupswitch d ps, n)) (hp : (ps.toList.zip (ps.toList.drop 1)).all (fun q => decide (q.1.1 < q.2.1)) = true) (ht : (pc : Int) + Op.lookupswitch.offset ps.toList d x.toInt = (t : Int)) (kk : m_V D cA base bS L p l e R s m args below meth c nL N0 S0 QQ t ls st w) : m_V D cA base bS L p l e R s m args below meth c nL N0 S0 QQ pc ls (.inl x :: st) w :=
  fun h1 h2 h3 H locs lsA hl hh hS => lv_lookup hx hb hd hp rfl ht (kk h1 h2 h3 H locs lsA hl hh hS)
end MV
end
section
/-! The small machine is sound: fields, arrays, new cells -/
theorem m_P1 {D : va_G} {cl : List vw_C} {q : Nat × va_E} {H : Heap} (h : va_at D cl q H) : va_P D cl [q] H := fun k q' hk => by
  cases k with
  | zero => cases hk; exact h
  | succ k => simp at hk
theorem m_vp {N : Nat} {f : Nat → Value} {i : Nat} (hi : i < N) : vp_V ((List.range N).map f) i = f i := by
  unfold vp_V
  rw [List.getD_eq_getElem?_getD, List.getElem?_map, List.getElem?_range hi]
  rfl
def m_fk : Nat → FieldType → Bool
  | 0, .int => true
  | 1, .boolean => true
  | 2, .object _ => true
  | 2, .array _ => true
  | _, _ => false
/-- what is known of the class ci: its table of fields -/
def m_ff (ci : Nat) (C : String) (T : u_T) (N : Nat) (ty : Nat → FieldType) : Prop := mCl[ci]? = some (C, T, N) ∧ m_nf ci = N ∧ (∀ x ∈ u_ws C T N, x ∈ m_W0) ∧ (∀ k, k < N → parseFieldDescriptor (T k).2.2.1 = some (ty k)) ∧ (∀ a, a < N → ∀ b, b < N → a ≠ b → (T a).2.1 ≠ (T b).2.1) ∧ ∀ j, j < N → m_fk (m_ft ci j) (ty j) = true
def m_lf (args : Array Value) (s : State) (own : String) (idx : Nat) (T : u_T) (j : Nat) : Prop := (Cond.fieldLink own idx (T j).1 (T j).2.1 (T j).2.2.1).before args s = true ∨ ∃ host, (Cond.fieldLinkNest own idx (T j).1 (T j).2.1 (T j).2.2.1 host).before args s = true
def m_lm (args : Array Value) (s : State) (own : String) (idx : Nat) (y : MethodName) : Prop := (Cond.methodLink own idx y).before args s = true ∨ ∃ host, va_Nw (.methodLinkNest own idx y host) s
abbrev m_ty (cA : Nat → ClassId) : List (ClassId × FieldType) := [(cA 1, .int), (cA 2, .boolean), (cA 3, .object (m_cn (m_ak 3))), (cA 4, .object (m_cn (m_ak 4)))]
section MH
variable {D : va_G} {cA : Nat → ClassId} {base bS L : Nat} {p : Program} {l : Launch} {e : Env} {R : Room} {s : State} {m : MethodId} {args : Array Value} {below : List Frame} {meth : Method} {c : Code} {nL N0 S0 : Nat} {QQ : State → Prop} {pc : Nat} {ls : mL} {st : mS} {w : mW} {cc : ByteArray}
theorem m_hd.lt {H : Heap} {k : Nat} {h : Nat × Nat} (hh : m_hd D cA base bS L s w H) (hk : w.1[k]? = some h) : k < 1000000 := Nat.lt_of_lt_of_le (List.getElem?_eq_some_iff.mp hk).1 hh.2.1
theorem mv_gf (hx : p.tables.exec = Jvm.exec) (hb : c.code = cc) {own C : String} {T : u_T} {N ci idx j k : Nat} {ty : Nat → FieldType} (hts : ∀ x ∈ m_W0, x.before args s = true) (hown : s.vm.findClass own = some m.cls) (hK : va_K D mCl (m_ty cA) s) (hF : m_ff ci C T N ty) (hj : j < N) (hlink : m_lf args s own idx T j) (hk : w.1[k]? = some (0, ci)) (hd : decode cc pc = .ok (.getfield idx, 3)) (kk : m_V D cA base bS L p l e R s m args below meth c nL N0 S0 QQ (pc + 3) ls (m_ld w ci k j :: st) w) : m_V D cA base bS L p l e R s m args below meth c nL N0 S0 QQ pc ls (.inr (some k) :: st) w := by
  intro h1 h2 h3 H locs lsA hl hh hS
  obtain ⟨hc, hN, hin, -, -, -⟩ := hF
  have hat := hh.2.2.2 k (0, ci) hk
  have e0 : m_ad base bS k = base + k := m_ad_lt (hh.lt hk)
  have hv : ((List.range (m_nf ci)).map (fun j => m_tv (m_ad base bS) (m_ld w ci k j)))[j]? = some (m_tv (m_ad base bS) (m_ld w ci k j)) := by
    rw [List.getElem?_map, List.getElem?_range (by rw [hN]; exact hj)]
    rfl
  have hP : va_P D mCl [(base + k, .inr (ci, (List.range (m_nf ci)).map (fun j => m_tv (m_ad base bS) (m_ld w ci k j))))] H := m_P1 hat
  show W p l e R s m args below meth c H locs _ _ QQ (F0 m pc lsA (.ref (m_ad base bS k) :: st.map (m_tv (m_ad base bS))))
  rw [e0]
  rcases hlink with hl1 | ⟨host, hl1⟩
  · exact va_get (ci := ci) hx hb hts hin hown hK hP 0 rfl hc j hj hl1 (fun _ h => h) hv hd (kk h1 h2 h3 H locs lsA hl hh hS)
  · exact va_getN (ci := ci) hx hb hts hin hown hK hP 0 rfl hc j hj hl1 (fun _ h => h) hv hd (kk h1 h2 h3 H locs lsA hl hh hS)
theorem mv_pf (hx : p.tables.exec = Jvm.exec) (hb : c.code = cc) {own C : String} {T : u_T} {N ci idx j k : Nat} {ty : Nat → FieldType} (hts : ∀ x ∈ m_W0, x.before args s = true) (hown : s.vm.findClass own = some m.cls) (hK : va_K D mCl (m_ty cA) s) (hF : m_ff ci C T N ty) (hj : j < N) (hlink : m_lf args s own idx T j) (hfin : (T j).2.2.2 = false ∨ ((T j).2.2.2 = true ∧ meth.name = "<init>" ∧ (T j).1 = own ∧ (Cond.fieldLink own idx (T j).1 (T j).2.1 (T j).2.2.1).before args s = true)) (hk : w.1[k]? = some (0, ci)) (hd : decode cc pc = .ok (.putfield idx, 3))
    {v : mV} {w' : mW} (hw1 : w'.1 = w.1) (hw2 : ∀ a, a ≠ k → w'.2.1 a = w.2.1 a ∧ w'.2.2 a = w.2.2 a) (hself : ∀ i, i < N → m_ld w' ci k i = if i = j then v else m_ld w ci k i) (hn : narrow (ty j) (m_tv (m_ad base bS) v) = m_tv (m_ad base bS) v) (hfit : fits (ty j) (m_tv (m_ad base bS) v) = true) (kk : m_V D cA base bS L p l e R s m args below meth c nL N0 S0 QQ (pc + 3) ls st w') : m_V D cA base bS L p l e R s m args below meth c nL N0 S0 QQ pc ls (v :: .inr (some k) :: st) w := by
  intro h1 h2 h3 H locs lsA hl hh hS
  obtain ⟨hc, hN, hin, hty, hnm, -⟩ := hF
  have hat := hh.2.2.2 k (0, ci) hk
  have e0 : m_ad base bS k = base + k := m_ad_lt (hh.lt hk)
  have hap := va_apart (own := own) hts hin ty hty hnm hK hc
  obtain ⟨r, h1', cell, q1, q2, q3, q4⟩ := hat
  have hr : r = (C, T, N) := Option.some.inj (h1'.symm.trans hc)
  subst hr
  obtain ⟨hS', hfc, kC, hkC, hkind⟩ := hK.1 ci _ hc
  obtain ⟨cf, kf, fi, f, hi, hsl⟩ := hS' j hj
  have hst := (u_facts hfc hkC (u_lays hts hin hj) hi).1
  have hlay := hts _ (hin _ (u_in_lay hj))
  unfold u_lay at hlay
  have key : ∀ H' : Heap, H'[base + k]? = some (cell.setSlot (D.2 ci j) (m_tv (m_ad base bS) v)) → H'.size = H.size → (∀ q, q ≠ base + k → H'[q]? = H[q]?) → W p l e R s m args below meth c H' (locs ++ [⟨base + k, D.2 ci j⟩]) (w.1.length - N0) (m_sl w.1 - S0) QQ (F0 m (pc + 3) lsA (st.map (m_tv (m_ad base bS)))) := by
    intro H' e1 e2 e3
    have hh' : m_hd D cA base bS L s w' H' := by
      refine hh.upd hk hw1 hw2 e2 e3 ⟨_, hc, t_OB.to (V := updV (vp_V ((List.range (m_nf ci)).map (fun j => m_tv (m_ad base bS) (m_ld w ci k j)))) j (m_tv (m_ad base bS) v)) ⟨_, e1, q2, q3, t_set q4 hap hj _⟩ (fun i hi => ?_)⟩
      show updV _ j _ i = vp_V ((List.range (m_nf ci)).map (fun j => m_tv (m_ad base bS) (m_ld w' ci k j))) i
      have hi' : i < m_nf ci := by rw [hN]; exact hi
      rw [m_vp hi', hself i hi]
      unfold updV
      by_cases hij : i = j
      · rw [if_pos hij, if_pos hij]
      · rw [if_neg hij, if_neg hij, m_vp hi']
    have := kk h1 (by rw [hw1]; exact h2) (by rw [hw1]; exact h3) H' _ lsA hl hh' (hS.put (k := D.2 ci j) e2 e3 (Nat.le_add_right base k))
    rw [hw1] at this
    exact this
  show W p l e R s m args below meth c H locs _ _ QQ (F0 m pc lsA (m_tv (m_ad base bS) v :: .ref (m_ad base bS k) :: st.map (m_tv (m_ad base bS))))
  rw [e0]
  rcases hfin with hfin | ⟨hfin, hin2, hdecl, hl1⟩
  · rw [if_neg (by rw [hfin]; decide)] at hlay
    have h6 := u_store hfc hkC hkind hlay hi (hty j hj) hn hfit
    rcases hlink with hl1 | ⟨host, hl1⟩
    · refine W.putK hx hb (f := f) ⟨hown, hl1, ⟨_, _, _, hi⟩, hst⟩ (by rw [q2]; exact h6) q1 q3 (by rw [hsl]; exact k2_hasslot (q4 j hj)) rfl rfl hd fun H' e1 e2 e3 => ?_
      rw [hsl] at e1 ⊢
      exact key H' e1 e2 e3
    · refine va_WputK hx hb (f := f) hown hl1 hi hst (by rw [q2]; exact h6) q1 q3 (by rw [hsl]; exact k2_hasslot (q4 j hj)) rfl rfl hd fun H' e1 e2 e3 => ?_
      rw [hsl] at e1 ⊢
      exact key H' e1 e2 e3
  · rw [if_pos hfin] at hlay
    have hcf : m.cls = cf := by
      obtain ⟨_, _, c', _, _, _, -, -, hf', -, -, -, hown2, -⟩ := Cond.laysFinal_spec hlay
      have e1 : c' = cf := by have := hi.symm.trans hf'; simp at this; exact this.1.symm
      rw [hdecl] at hown2
      rw [← e1]; exact Option.some.inj (hown.symm.trans hown2)
    have h6 := u_fits hfc hkC hkind (Or.inr hlay) hi (hty j hj) hn hfit
    refine W.putFinK hx hb hown hl1 hi hst hcf hin2 (by rw [q2]; exact h6) q1 q3 (by rw [hsl]; exact k2_hasslot (q4 j hj)) rfl rfl hd fun H' e1 e2 e3 => ?_
    rw [hsl] at e1 ⊢
    exact key H' e1 e2 e3
theorem mv_xi (hx : p.tables.exec = Jvm.exec) (hb : c.code = cc) (hK : va_K D mCl (m_ty cA) s) {i : Int32} {k n : Nat} (hk : w.1[k]? = some (1, n)) (hi : ¬ (i < 0 ∨ n ≤ i.toNatClampNeg)) (hd : decode cc pc = .ok (.iaload, 1)) (kk : m_V D cA base bS L p l e R s m args below meth c nL N0 S0 QQ (pc + 1) ls (.inl (w.2.1 k i.toNatClampNeg) :: st) w) : m_V D cA base bS L p l e R s m args below meth c nL N0 S0 QQ pc ls (.inl i :: .inr (some k) :: st) w := by
  intro h1 h2 h3 H locs lsA hl hh hS
  have hat : va_at D mCl (base + k, .inl (cA 1, n, .inl (w.2.1 k))) H := hh.2.2.2 k (1, n) hk
  show W p l e R s m args below meth c H locs _ _ QQ (F0 m pc lsA (.int i :: .ref (m_ad base bS k) :: st.map (m_tv (m_ad base bS))))
  rw [m_ad_lt (hh.lt hk)]
  exact va_iald hx hb hK (m_P1 hat) 0 0 rfl rfl hi hd (kk h1 h2 h3 H locs lsA hl hh hS)
theorem mv_xs (hx : p.tables.exec = Jvm.exec) (hb : c.code = cc) {i : Int32} (hi : ¬ (i < 0 ∨ (w.2.1 1000001 0).toNatClampNeg ≤ i.toNatClampNeg)) (hd : decode cc pc = .ok (.iaload, 1)) (kk : m_V D cA base bS L p l e R s m args below meth c nL N0 S0 QQ (pc + 1) ls (.inl (w.2.1 1000000 i.toNatClampNeg) :: st) w) : m_V D cA base bS L p l e R s m args below meth c nL N0 S0 QQ pc ls (.inl i :: .inr (some 1000000) :: st) w := by
  intro h1 h2 h3 H locs lsA hl hh hS
  obtain ⟨-, -, ⟨-, hL, h5, ⟨scr, g1, g2, g3, g4, g5⟩, -⟩, -⟩ := id hh
  have hL2 : (w.2.1 1000001 0).toNatClampNeg = L := by rw [h5]; exact nI_clamp hL
  rw [hL2] at hi
  have hlt : i.toNatClampNeg < L := Nat.not_le.mp fun q => hi (Or.inr q)
  show W p l e R s m args below meth c H locs _ _ QQ (F0 m pc lsA (.int i :: .ref bS :: st.map (m_tv (m_ad base bS))))
  exact W.iald (v := .int (w.2.1 1000000 i.toNatClampNeg)) hx hb g1 g2 g3 (by rw [g4]; exact hi) (g5 _ hlt) rfl rfl hd (kk h1 h2 h3 H locs lsA hl hh hS)
theorem mv_xb (hx : p.tables.exec = Jvm.exec) (hb : c.code = cc) (hK : va_K D mCl (m_ty cA) s) {i : Int32} {k n : Nat} (hk : w.1[k]? = some (2, n)) (hi : ¬ (i < 0 ∨ n ≤ i.toNatClampNeg)) (hd : decode cc pc = .ok (.baload, 1)) (kk : m_V D cA base bS L p l e R s m args below meth c nL N0 S0 QQ (pc + 1) ls (.inl (w.2.1 k i.toNatClampNeg) :: st) w) : m_V D cA base bS L p l e R s m args below meth c nL N0 S0 QQ pc ls (.inl i :: .inr (some k) :: st) w := by
  intro h1 h2 h3 H locs lsA hl hh hS
  have hat : va_at D mCl (base + k, .inl (cA 2, n, .inl (w.2.1 k))) H := hh.2.2.2 k (2, n) hk
  show W p l e R s m args below meth c H locs _ _ QQ (F0 m pc lsA (.int i :: .ref (m_ad base bS k) :: st.map (m_tv (m_ad base bS))))
  rw [m_ad_lt (hh.lt hk)]
  exact va_zald hx hb hK (m_P1 hat) 0 1 rfl rfl hi hd (kk h1 h2 h3 H locs lsA hl hh hS)
theorem mv_xa (hx : p.tables.exec = Jvm.exec) (hb : c.code = cc) (hK : va_K D mCl (m_ty cA) s) {i : Int32} {k n t : Nat} (ht : t = 3 ∨ t = 4) (hk : w.1[k]? = some (t, n)) (hi : ¬ (i < 0 ∨ n ≤ i.toNatClampNeg)) (hd : decode cc pc = .ok (.aaload, 1)) (kk : m_V D cA base bS L p l e R s m args below meth c nL N0 S0 QQ (pc + 1) ls (.inr (w.2.2 k i.toNatClampNeg) :: st) w) : m_V D cA base bS L p l e R s m args below meth c nL N0 S0 QQ pc ls (.inl i :: .inr (some k) :: st) w := by
  intro h1 h2 h3 H locs lsA hl hh hS
  have e0 := m_ad_lt (base := base) (bS := bS) (hh.lt hk)
  rcases ht with rfl | rfl
  · have hat : va_at D mCl (base + k, .inl (cA 3, n, .inr (.inr (.inr (.inr (fun i => (w.2.2 k i).map (m_ad base bS))))))) H := hh.2.2.2 k (3, n) hk
    show W p l e R s m args below meth c H locs _ _ QQ (F0 m pc lsA (.int i :: .ref (m_ad base bS k) :: st.map (m_tv (m_ad base bS))))
    rw [e0]
    exact va_aldq hx hb hK (m_P1 hat) 0 2 rfl rfl hi hd (kk h1 h2 h3 H locs lsA hl hh hS)
  · have hat : va_at D mCl (base + k, .inl (cA 4, n, .inr (.inr (.inr (.inr (fun i => (w.2.2 k i).map (m_ad base bS))))))) H := hh.2.2.2 k (4, n) hk
    show W p l e R s m args below meth c H locs _ _ QQ (F0 m pc lsA (.int i :: .ref (m_ad base bS k) :: st.map (m_tv (m_ad base bS))))
    rw [e0]
    exact va_aldq hx hb hK (m_P1 hat) 0 3 rfl rfl hi hd (kk h1 h2 h3 H locs lsA hl hh hS)
theorem m_si_row {f : Nat → Nat → Int32} {k j : Nat} {v : Int32} {a : Nat} (h : a ≠ k) : m_si f k j v a = f a := funext fun b => by simp [m_si, h]
theorem m_sr_row {f : Nat → Nat → Option Nat} {k j : Nat} {v : Option Nat} {a : Nat} (h : a ≠ k) : m_sr f k j v a = f a := funext fun b => by simp [m_sr, h]
theorem mv_yi (hx : p.tables.exec = Jvm.exec) (hb : c.code = cc) (hK : va_K D mCl (m_ty cA) s) {i x : Int32} {k n : Nat} (hk : w.1[k]? = some (1, n)) (hi : ¬ (i < 0 ∨ n ≤ i.toNatClampNeg)) (hd : decode cc pc = .ok (.iastore, 1)) (kk : m_V D cA base bS L p l e R s m args below meth c nL N0 S0 QQ (pc + 1) ls st (w.1, m_si w.2.1 k i.toNatClampNeg x, w.2.2)) : m_V D cA base bS L p l e R s m args below meth c nL N0 S0 QQ pc ls (.inl x :: .inl i :: .inr (some k) :: st) w := by
  intro h1 h2 h3 H locs lsA hl hh hS
  have hat : H[base + k]? = some (arrV (cA 1) n (fun j => .int (w.2.1 k j))) := hh.2.2.2 k (1, n) hk
  show W p l e R s m args below meth c H locs _ _ QQ (F0 m pc lsA (.int x :: .int i :: .ref (m_ad base bS k) :: st.map (m_tv (m_ad base bS))))
  rw [m_ad_lt (hh.lt hk)]
  refine W.iast hx hb hat ((hK.2 0 _ rfl).1 n (fun j => .int (w.2.1 k j))) (fun q => by cases q) (by rw [arrV_size]; exact hi) rfl rfl hd fun H1 e1 z oq => ?_
  refine kk h1 h2 h3 H1 _ lsA hl (hh.upd hk rfl (fun a ha => ⟨m_si_row ha, rfl⟩) z oq ?_) (hS.put z oq (Nat.le_add_right base k))
  show H1[base + k]? = some (arrV (cA 1) n (fun j => .int (m_si w.2.1 k i.toNatClampNeg x k j)))
  rw [e1, arrV_store]
  congr 2
  funext q
  by_cases hq : q = i.toNatClampNeg
  · subst hq
    simp [updV, m_si]
  · simp [updV, m_si, hq]
theorem mv_yb (hx : p.tables.exec = Jvm.exec) (hb : c.code = cc) (hK : va_K D mCl (m_ty cA) s) {i x : Int32} {k n : Nat} (hk : w.1[k]? = some (2, n)) (hxx : x = 0 ∨ x = 1) (hi : ¬ (i < 0 ∨ n ≤ i.toNatClampNeg)) (hd : decode cc pc = .ok (.bastore, 1)) (kk : m_V D cA base bS L p l e R s m args below meth c nL N0 S0 QQ (pc + 1) ls st (w.1, m_si w.2.1 k i.toNatClampNeg x, w.2.2)) : m_V D cA base bS L p l e R s m args below meth c nL N0 S0 QQ pc ls (.inl x :: .inl i :: .inr (some k) :: st) w := by
  intro h1 h2 h3 H locs lsA hl hh hS
  have hat : H[base + k]? = some (arrV (cA 2) n (fun j => .int (w.2.1 k j))) := hh.2.2.2 k (2, n) hk
  have hnar : narrow .boolean (.int x) = .int x := by rcases hxx with rfl | rfl <;> rfl
  show W p l e R s m args below meth c H locs _ _ QQ (F0 m pc lsA (.int x :: .int i :: .ref (m_ad base bS k) :: st.map (m_tv (m_ad base bS))))
  rw [m_ad_lt (hh.lt hk)]
  refine W.zast hx hb hat ((hK.2 1 _ rfl).1 n (fun j => .int (w.2.1 k j))) (fun q => by cases q) (by rw [arrV_size]; exact hi) rfl rfl hd fun H1 e1 z oq => ?_
  refine kk h1 h2 h3 H1 _ lsA hl (hh.upd hk rfl (fun a ha => ⟨m_si_row ha, rfl⟩) z oq ?_) (hS.put z oq (Nat.le_add_right base k))
  show H1[base + k]? = some (arrV (cA 2) n (fun j => .int (m_si w.2.1 k i.toNatClampNeg x k j)))
  rw [e1, hnar, arrV_store]
  congr 2
  funext q
  by_cases hq : q = i.toNatClampNeg
  · subst hq
    simp [updV, m_si]
  · simp [updV, m_si, hq]
theorem mv_ya (hx : p.tables.exec = Jvm.exec) (hb : c.code = cc) (hK : va_K D mCl (m_ty cA) s) {i : Int32} {k n t v ci : Nat} {T : u_T} {N : Nat} {C : String} {ty : Nat → FieldType} (t0 : Nat) (ht0 : (m_ty cA)[t0]? = some (cA t, .object C)) (ht : t = 3 ∨ t = 4) (hF : m_ff ci C T N ty) (hk : w.1[k]? = some (t, n)) (hv : w.1[v]? = some (0, ci)) (hi : ¬ (i < 0 ∨ n ≤ i.toNatClampNeg)) (hd : decode cc pc = .ok (.aastore, 1)) (kk : m_V D cA base bS L p l e R s m args below meth c nL N0 S0 QQ (pc + 1) ls st (w.1, w.2.1, m_sr w.2.2 k i.toNatClampNeg (some v))) : m_V D cA base bS L p l e R s m args below meth c nL N0 S0 QQ pc ls (.inr (some v) :: .inl i :: .inr (some k) :: st) w := by
  intro h1 h2 h3 H locs lsA hl hh hS
  have hce : ∀ (w1 : mW), m_ce cA (m_ad base bS) w1 k (t, n) = .inl (cA t, n, .inr (.inr (.inr (.inr (fun i => (w1.2.2 k i).map (m_ad base bS)))))) := by
    intro w1
    rcases ht with rfl | rfl <;> rfl
  have hat := hh.2.2.2 k (t, n) hk
  rw [hce] at hat
  have hat : H[base + k]? = some (arrV (cA t) n (fun j => va_rf ((w.2.2 k j).map (m_ad base bS)))) := hat
  obtain ⟨r', hr', cellV, g1, g2, g3, -⟩ := hh.2.2.2 v (0, ci) hv
  have hcls := (hK.1 ci _ hF.1).2
  obtain ⟨kA, comp, k1, k2, k3, -⟩ := (hK.2 t0 _ ht0).2
  have hcomp : comp = D.1 ci := Option.some.inj (k3.symm.trans hcls.1)
  subst hcomp
  obtain ⟨kC, hkC, -⟩ := hcls.2
  have hlt : i.toNatClampNeg < n := Nat.not_le.mp fun q => hi (Or.inr q)
  have h0 : ¬ i < 0 := fun q => hi (Or.inl q)
  show W p l e R s m args below meth c H locs _ _ QQ (F0 m pc lsA (.ref (m_ad base bS v) :: .int i :: .ref (m_ad base bS k) :: st.map (m_tv (m_ad base bS))))
  rw [m_ad_lt (hh.lt hk), m_ad_lt (hh.lt hv)]
  refine W.aast hx hb hat (fun q h => by cases h) (fun h => by cases h) k1 k2 rfl hkC ⟨h0, by rw [arrV_size]; exact hlt⟩ g1 (fun q h => by rw [g3] at h; cases h) (by rw [g2]; exact hkC) (by rw [g2]; exact va_assign hcls) rfl rfl hd fun H1 e1 z oq => ?_
  refine kk h1 h2 h3 H1 _ lsA hl (hh.upd hk rfl (fun a ha => ⟨rfl, m_sr_row ha⟩) z oq ?_) (hS.put z oq (Nat.le_add_right base k))
  rw [hce]
  show H1[base + k]? = some (arrV (cA t) n (fun j => va_rf ((m_sr w.2.2 k i.toNatClampNeg (some v) k j).map (m_ad base bS))))
  rw [e1, arrV_store]
  congr 2
  funext q
  by_cases hq : q = i.toNatClampNeg
  · subst hq
    simp [updV, m_sr, va_rf, m_ad_lt (hh.lt hv)]
  · simp [updV, m_sr, hq]
theorem mv_al (hx : p.tables.exec = Jvm.exec) (hb : c.code = cc) (hK : va_K D mCl (m_ty cA) s) {k n t : Nat} (ht : t = 1 ∨ t = 2 ∨ t = 3 ∨ t = 4) (hk : w.1[k]? = some (t, n)) (hd : decode cc pc = .ok (.arraylength, 1)) (kk : m_V D cA base bS L p l e R s m args below meth c nL N0 S0 QQ (pc + 1) ls (.inl (Int32.ofNat n) :: st) w) : m_V D cA base bS L p l e R s m args below meth c nL N0 S0 QQ pc ls (.inr (some k) :: st) w := by
  intro h1 h2 h3 H locs lsA hl hh hS
  have hat := hh.2.2.2 k (t, n) hk
  show W p l e R s m args below meth c H locs _ _ QQ (F0 m pc lsA (.ref (m_ad base bS k) :: st.map (m_tv (m_ad base bS))))
  rw [m_ad_lt (hh.lt hk)]
  rcases ht with rfl | rfl | rfl | rfl
  · exact va_alen hx hb hK (m_P1 hat) 0 0 rfl rfl rfl hd (kk h1 h2 h3 H locs lsA hl hh hS)
  · exact va_alen hx hb hK (m_P1 hat) 0 1 rfl rfl rfl hd (kk h1 h2 h3 H locs lsA hl hh hS)
  · exact va_alen hx hb hK (m_P1 hat) 0 2 rfl rfl rfl hd (kk h1 h2 h3 H locs lsA hl hh hS)
  · exact va_alen hx hb hK (m_P1 hat) 0 3 rfl rfl rfl hd (kk h1 h2 h3 H locs lsA hl hh hS)
theorem mv_as (hx : p.tables.exec = Jvm.exec) (hb : c.code = cc) (hd : decode cc pc = .ok (.arraylength, 1)) (kk : m_V D cA base bS L p l e R s m args below meth c nL N0 S0 QQ (pc + 1) ls (.inl (w.2.1 1000001 0) :: st) w) : m_V D cA base bS L p l e R s m args below meth c nL N0 S0 QQ pc ls (.inr (some 1000000) :: st) w := by
  intro h1 h2 h3 H locs lsA hl hh hS
  have hk := kk h1 h2 h3 H locs lsA hl hh hS
  obtain ⟨-, -, ⟨-, hL, h5, ⟨scr, g1, g2, g3, g4, g5⟩, -⟩, -⟩ := id hh
  rw [h5] at hk
  show W p l e R s m args below meth c H locs _ _ QQ (F0 m pc lsA (.ref bS :: st.map (m_tv (m_ad base bS))))
  exact W.alen (n := Int32.ofNat L) hx hb g1 g2 (by rw [g4] <;> rfl) rfl rfl hd hk
theorem m_sl_app (l : List (Nat × Nat)) (h : Nat × Nat) : m_sl (l ++ [h]) = m_sl l + m_sz h := by
  unfold m_sl
  rw [List.map_append, List.sum_append]
  simp
theorem mv_new (hx : p.tables.exec = Jvm.exec) (hb : c.code = cc) {own C : String} {T : u_T} {N ci idx : Nat} {ty : Nat → FieldType} (hts : ∀ x ∈ m_W0, x.before args s = true) (hown : s.vm.findClass own = some m.cls) (hK : va_K D mCl (m_ty cA) s) (hF : m_ff ci C T N ty) (hcl : (Cond.classLink own idx C).before args s = true) (hinst : (Cond.instantiable C N).before args s = true) (hini : (Cond.initialized C).before args s = true) (hc1 : w.1.length + 1 ≤ N0 + R.cells) (hc2 : m_sl w.1 + m_sz (0, ci) ≤ S0 + R.slots) (hc3 : w.1.length < 1000000) (hd : decode cc pc = .ok (.new idx, 3))
    (kk : m_V D cA base bS L p l e R s m args below meth c nL N0 S0 QQ (pc + 3) ls (.inr (some w.1.length) :: st) (w.1 ++ [(0, ci)], m_zi w.2.1 w.1.length, m_zr w.2.2 w.1.length)) : m_V D cA base bS L p l e R s m args below meth c nL N0 S0 QQ pc ls st w := by
  intro h1 h2 h3 H locs lsA hl hh hS
  obtain ⟨hc, hN, hin, hty, -, hfk⟩ := hF
  have hsz : m_sz (0, ci) = N := hN
  rw [hsz] at hc2
  have hKn := hK.1 ci _ hc
  refine W.newcK hx hb hown hcl hinst hini rfl hd (by omega) (by omega) hKn.2.1 hh.1 fun H1 kC hkC e1 z1 o1 => ?_
  have hh' : m_hd D cA base bS L s (w.1 ++ [(0, ci)], m_zi w.2.1 w.1.length, m_zr w.2.2 w.1.length) H1 := by
    refine hh.push hc3 (by rw [z1, hh.1]) (fun q hq => o1 q (by rw [← hh.1]; exact hq)) ⟨_, hc, (u_born ty hts hin hKn hkC e1 hty).to (fun j hj => ?_)⟩
    show defaultValue (ty j) = vp_V ((List.range (m_nf ci)).map _) j
    rw [m_vp (by rw [hN]; exact hj)]
    have h9 := hfk j hj
    unfold m_ld
    generalize m_ft ci j = f9 at h9 ⊢
    generalize ty j = t9 at h9 ⊢
    unfold m_fk at h9
    split at h9
    · simp [m_zi, m_tv, defaultValue]
    · simp [m_zi, m_tv, defaultValue]
    · simp [m_zr, m_tv, defaultValue, va_rf]
    · simp [m_zr, m_tv, defaultValue, va_rf]
    · cases h9
  have hS' : va_S (fun q => base ≤ q) s.heap H1 locs := ⟨Nat.le_trans hS.1 (by rw [z1, hh.1]; omega), fun q g1 g2 => by rw [o1 q (by rw [← hh.1]; exact Nat.lt_of_lt_of_le g1 hS.1)]; exact hS.2.1 q g1 g2, hS.2.2⟩
  have hk := kk h1 (by show N0 ≤ (w.1 ++ [(0, ci)]).length; rw [List.length_append]; omega) (by show S0 ≤ m_sl (w.1 ++ [(0, ci)]); rw [m_sl_app]; omega) H1 locs lsA hl hh' hS'
  refine W.cs (cells' := (w.1 ++ [(0, ci)]).length - N0) (slots' := m_sl (w.1 ++ [(0, ci)]) - S0) (by rw [List.length_append]; simp only [List.length_cons, List.length_nil]; omega) (by rw [m_sl_app, hsz]; omega) ?_
  have e9 : m_tv (m_ad base bS) (.inr (some w.1.length)) = .ref (base + w.1.length) := by show Value.ref (m_ad base bS w.1.length) = _; rw [m_ad_lt hc3]
  have hk : W p l e R s m args below meth c H1 locs _ _ QQ (F0 m (pc + 3) lsA (m_tv (m_ad base bS) (.inr (some w.1.length)) :: st.map (m_tv (m_ad base bS)))) := hk
  rw [e9] at hk
  exact hk
theorem mv_newa (hx : p.tables.exec = Jvm.exec) (hb : c.code = cc) {at_ : ArrayType} {t t0 : Nat} {fty : FieldType} (hat : newarray.typeOf at_ = fty) (htt : (at_ = .int ∧ t = 1 ∧ t0 = 0) ∨ (at_ = .boolean ∧ t = 2 ∧ t0 = 1)) (harr : (Cond.arrayClass (newarray.typeOf at_)).before args s = true) (hK : va_K D mCl (m_ty cA) s) {n : Int32} (hn : ¬ n < 0) (hn2 : n.toNatClampNeg ≤ 1000) (hc1 : w.1.length + 1 ≤ N0 + R.cells) (hc2 : m_sl w.1 + m_sz (t, n.toNatClampNeg) ≤ S0 + R.slots) (hc3 : w.1.length < 1000000) (hd : decode cc pc = .ok (.newarray at_, 2))
    (kk : m_V D cA base bS L p l e R s m args below meth c nL N0 S0 QQ (pc + 2) ls (.inr (some w.1.length) :: st) (w.1 ++ [(t, n.toNatClampNeg)], m_zi w.2.1 w.1.length, m_zr w.2.2 w.1.length)) : m_V D cA base bS L p l e R s m args below meth c nL N0 S0 QQ pc ls (.inl n :: st) w := by
  intro h1 h2 h3 H locs lsA hl hh hS
  have hsz : m_sz (t, n.toNatClampNeg) = n.toNatClampNeg := by rcases htt with ⟨-, rfl, -⟩ | ⟨-, rfl, -⟩ <;> rfl
  rw [hsz] at hc2
  have hby : n.toNatClampNeg * componentBytes (newarray.typeOf at_) ≤ 536870912 := by
    rcases htt with ⟨rfl, -, -⟩ | ⟨rfl, -, -⟩
    · show n.toNatClampNeg * 4 ≤ 536870912
      omega
    · show n.toNatClampNeg * 1 ≤ 536870912
      omega
  refine va_newaK hx hb harr rfl hd rfl hn rfl hby (by omega) (by omega) hh.1 fun H1 cA' e1 z1 o1 hAr hNm => ?_
  have hca : cA' = cA t := by
    rcases htt with ⟨rfl, rfl, rfl⟩ | ⟨rfl, rfl, rfl⟩
    · have h9 : s.vm.findClass ("[" ++ FieldType.int.toString) = some (cA 1) := (hK.2 0 _ rfl).2
      exact Option.some.inj (hNm.symm.trans h9)
    · have h9 : s.vm.findClass ("[" ++ FieldType.boolean.toString) = some (cA 2) := (hK.2 1 _ rfl).2
      exact Option.some.inj (hNm.symm.trans h9)
  subst hca
  have hh' : m_hd D cA base bS L s (w.1 ++ [(t, n.toNatClampNeg)], m_zi w.2.1 w.1.length, m_zr w.2.2 w.1.length) H1 := by
    refine hh.push hc3 (by rw [z1, hh.1]) (fun q hq => o1 q (by rw [← hh.1]; exact hq)) ?_
    have e8 : (fun j => Value.int (m_zi w.2.1 w.1.length w.1.length j)) = fun _ => Value.int 0 := funext fun j => by simp [m_zi]
    rcases htt with ⟨rfl, rfl, rfl⟩ | ⟨rfl, rfl, rfl⟩
    · show H1[base + w.1.length]? = some (arrV (cA 1) n.toNatClampNeg (fun j => Value.int (m_zi w.2.1 w.1.length w.1.length j)))
      rw [e8]
      exact e1
    · show H1[base + w.1.length]? = some (arrV (cA 2) n.toNatClampNeg (fun j => Value.int (m_zi w.2.1 w.1.length w.1.length j)))
      rw [e8]
      exact e1
  have hS' : va_S (fun q => base ≤ q) s.heap H1 locs := ⟨Nat.le_trans hS.1 (by rw [z1, hh.1]; omega), fun q g1 g2 => by rw [o1 q (by rw [← hh.1]; exact Nat.lt_of_lt_of_le g1 hS.1)]; exact hS.2.1 q g1 g2, hS.2.2⟩
  have hk := kk h1 (by show N0 ≤ (w.1 ++ [(t, n.toNatClampNeg)]).length; rw [List.length_append]; omega) (by show S0 ≤ m_sl (w.1 ++ [(t, n.toNatClampNeg)]); rw [m_sl_app]; omega) H1 locs lsA hl hh' hS'
  refine W.cs (cells' := (w.1 ++ [(t, n.toNatClampNeg)]).length - N0) (slots' := m_sl (w.1 ++ [(t, n.toNatClampNeg)]) - S0) (by rw [List.length_append]; simp only [List.length_cons, List.length_nil]; omega) (by rw [m_sl_app, hsz]; omega) ?_
  have e9 : m_tv (m_ad base bS) (.inr (some w.1.length)) = .ref (base + w.1.length) := by show Value.ref (m_ad base bS w.1.length) = _; rw [m_ad_lt hc3]
  have hk : W p l e R s m args below meth c H1 locs _ _ QQ (F0 m (pc + 2) lsA (m_tv (m_ad base bS) (.inr (some w.1.length)) :: st.map (m_tv (m_ad base bS)))) := hk
  rw [e9] at hk
  exact hk
theorem mv_newq (hx : p.tables.exec = Jvm.exec) (hb : c.code = cc) {own C : String} {idx t t0 : Nat} (hown : s.vm.findClass own = some m.cls) (hcl : (Cond.classLink own idx C).before args s = true) (hov : (Cond.arrayOver (.object C)).before args s = true) (ht : t = 3 ∨ t = 4) (ht0 : (m_ty cA)[t0]? = some (cA t, .object C)) (hK : va_K D mCl (m_ty cA) s) {n : Int32} (hn : ¬ n < 0) (hn2 : n.toNatClampNeg ≤ 1000) (hc1 : w.1.length + 1 ≤ N0 + R.cells) (hc2 : m_sl w.1 + m_sz (t, n.toNatClampNeg) ≤ S0 + R.slots) (hc3 : w.1.length < 1000000) (hd : decode cc pc = .ok (.anewarray idx, 3))
    (kk : m_V D cA base bS L p l e R s m args below meth c nL N0 S0 QQ (pc + 3) ls (.inr (some w.1.length) :: st) (w.1 ++ [(t, n.toNatClampNeg)], m_zi w.2.1 w.1.length, m_zr w.2.2 w.1.length)) : m_V D cA base bS L p l e R s m args below meth c nL N0 S0 QQ pc ls (.inl n :: st) w := by
  intro h1 h2 h3 H locs lsA hl hh hS
  have hsz : m_sz (t, n.toNatClampNeg) = n.toNatClampNeg := by rcases ht with rfl | rfl <;> rfl
  rw [hsz] at hc2
  refine W.anew hx hb hown hcl hov rfl hd rfl hn (by omega) (by omega) (by omega) fun cA' kA comp f1 f2 f3 f4 => ?_
  generalize hH1 : H.push ({ cls := cA', slots := Array.replicate n.toNatClampNeg .null, vm := .none } : Cell) = H1
  have z1 : H1.size = H.size + 1 := by rw [← hH1, Array.size_push]
  have e1 : H1[H.size]? = some (arrV cA' n.toNatClampNeg (fun _ => .null)) := by rw [← hH1, Array.getElem?_push_size, ← arrV_new]
  have o1 : ∀ q : Nat, q < H.size → H1[q]? = H[q]? := fun q hq => by rw [← hH1, Array.getElem?_push, if_neg (Nat.ne_of_lt hq)]
  have hca : cA' = cA t := by
    obtain ⟨_, _, _, _, _, h9⟩ := (hK.2 t0 _ ht0).2
    exact Option.some.inj (f1.symm.trans h9)
  subst hca
  have hh' : m_hd D cA base bS L s (w.1 ++ [(t, n.toNatClampNeg)], m_zi w.2.1 w.1.length, m_zr w.2.2 w.1.length) H1 := by
    refine hh.push hc3 z1 o1 ?_
    have e8 : (fun j => va_rf ((m_zr w.2.2 w.1.length w.1.length j).map (m_ad base bS))) = fun _ => Value.null := funext fun j => by simp [m_zr, va_rf]
    rw [hh.1] at e1
    rcases ht with rfl | rfl
    · show H1[base + w.1.length]? = some (arrV (cA 3) n.toNatClampNeg (fun j => va_rf ((m_zr w.2.2 w.1.length w.1.length j).map (m_ad base bS))))
      rw [e8]
      exact e1
    · show H1[base + w.1.length]? = some (arrV (cA 4) n.toNatClampNeg (fun j => va_rf ((m_zr w.2.2 w.1.length w.1.length j).map (m_ad base bS))))
      rw [e8]
      exact e1
  have hS' : va_S (fun q => base ≤ q) s.heap H1 locs := ⟨Nat.le_trans hS.1 (by rw [z1]; omega), fun q g1 g2 => by rw [o1 q (Nat.lt_of_lt_of_le g1 hS.1)]; exact hS.2.1 q g1 g2, hS.2.2⟩
  have hk := kk h1 (by show N0 ≤ (w.1 ++ [(t, n.toNatClampNeg)]).length; rw [List.length_append]; omega) (by show S0 ≤ m_sl (w.1 ++ [(t, n.toNatClampNeg)]); rw [m_sl_app]; omega) H1 locs lsA hl hh' hS'
  refine W.cs (cells' := (w.1 ++ [(t, n.toNatClampNeg)]).length - N0) (slots' := m_sl (w.1 ++ [(t, n.toNatClampNeg)]) - S0) (by rw [List.length_append]; simp only [List.length_cons, List.length_nil]; omega) (by rw [m_sl_app, hsz]; omega) ?_
  have e9 : m_tv (m_ad base bS) (.inr (some w.1.length)) = .ref H.size := by show Value.ref (m_ad base bS w.1.length) = _; rw [m_ad_lt hc3, hh.1]
  have hk : W p l e R s m args below meth c H1 locs _ _ QQ (F0 m (pc + 3) lsA (m_tv (m_ad base bS) (.inr (some w.1.length)) :: st.map (m_tv (m_ad base bS)))) := hk
  rw [e9] at hk
  exact hk
end MH
section MM
variable {D : va_G} {cA : Nat → ClassId} {base bS L : Nat} {p : Program} {l : Launch} {e : Env} {R : Room} {s : State} {m : MethodId} {args : Array Value} {below : List Frame} {meth : Method} {c : Code} {nL N0 S0 : Nat} {QQ : State → Prop} {pc : Nat} {ls : mL} {st : mS} {w : mW} {cc : ByteArray}
theorem m_lf_of (ok : ∀ x ∈ m_W0, x.before args s = true) (hN : m_ne s) {own : String} {idx : Nat} {T : u_T} {j : Nat} (h : m_lkw own idx T j) : m_lf args s own idx T j := by
  rcases h with h | ⟨host, h⟩
  · exact Or.inl (ok _ h)
  · exact Or.inr ⟨host, va_Nw.use rfl (hN _ h rfl)⟩
theorem m_lm_of (ok : ∀ x ∈ m_W0, x.before args s = true) (hN : m_ne s) {own : String} {idx : Nat} {y : MethodName} (h : m_lmw own idx y) : m_lm args s own idx y := by
  rcases h with h | ⟨host, h⟩
  · exact Or.inl (ok _ h)
  · exact Or.inr ⟨host, hN _ h rfl⟩
def m_fnw (me idx : Nat) (T : u_T) (j : Nat) : Prop := (T j).2.2.2 = false ∨ ((T j).2.2.2 = true ∧ (m_mn me).name = "<init>" ∧ (T j).1 = m_on me ∧ Cond.fieldLink (m_on me) idx (T j).1 (T j).2.1 (T j).2.2.1 ∈ m_W0)
theorem m_fin_of (ok : ∀ x ∈ m_W0, x.before args s = true) {me idx : Nat} {T : u_T} {j : Nat} (hinit : (m_mn me).name = "<init>" → meth.name = "<init>") (h : m_fnw me idx T j) : (T j).2.2.2 = false ∨ ((T j).2.2.2 = true ∧ meth.name = "<init>" ∧ (T j).1 = m_on me ∧ (Cond.fieldLink (m_on me) idx (T j).1 (T j).2.1 (T j).2.2.1).before args s = true) := by
  rcases h with h | ⟨h1, h2, h3, h4⟩
  · exact Or.inl h
  · exact Or.inr ⟨h1, hinit h2, h3, ok _ h4⟩
theorem m_ao_of (hN : m_ne s) {C : String} (h : Cond.arrayOver (.object C) ∈ lw_tbl) : (Cond.arrayOver (.object C)).before args s = true := va_AO.use (hN _ h rfl)
theorem mv_oi (hx : p.tables.exec = Jvm.exec) (hb : c.code = cc) (hml : c.maxLocals = nL) {own : String} {idx b : Nat} (hR1 : 1 ≤ R.frames) (hR2 : 20 ≤ R.locals) (hown : s.vm.findClass own = some m.cls) (k1 : (Cond.methodLink own idx Lib.objectInit).before args s = true) (k2 : (Cond.instanceMethod Lib.objectInit).before args s = true) (k3 : (Cond.code Lib.objectInit ⟨#[0xb1]⟩ 1 none).before args s = true) (hc : st.length ≤ 8) (hd : decode cc pc = .ok (.invokespecial idx, 3)) (kk : m_V D cA base bS L p l e R s m args below meth c nL N0 S0 QQ (pc + 3) ls st w) : m_V D cA base bS L p l e R s m args below meth c nL N0 S0 QQ pc ls (.inr (some b) :: st) w := by
  intro h1 h2 h3 H locs lsA hl hh hS
  show W p l e R s m args below meth c H locs _ _ QQ (F0 m pc lsA (.ref (m_ad base bS b) :: st.map (m_tv (m_ad base bS))))
  refine W.objInit hx hb hown k1 k2 k3 rfl (by rw [hml]; exact hl.1.1) rfl hd hR1 ?_ (kk h1 h2 h3 H locs lsA hl hh hS)
  have h9 : 2 * (F0 m pc lsA (.ref (m_ad base bS b) :: st.map (m_tv (m_ad base bS)))).monitorRoom + ((st.map (m_tv (m_ad base bS))).map fun v => v.category).sum ≤ 8 := lv_room (by rw [m_cats]; exact hc)
  omega
end MM
end
section
/-! The small machine is sound: calls, and the whole -/
def m_rm (d y : Nat) : Room := { frames := d, cells := (m_bg y).1, slots := (m_bg y).2, locals := 64 * d }
def m_ws (y : Nat) : List Cond := Cond.code (m_mn y) (m_by y) (m_mx y) (m_rf y) :: m_W0
abbrev m_Pc (D : va_G) (cA : Nat → ClassId) (base bS L : Nat) (as : List mV) (w : mW) : Array Value → State → Prop := va_Pc (as.map (m_tv (m_ad base bS))) (fun U => m_hd D cA base bS L U w U.heap ∧ va_K D mCl (m_ty cA) U ∧ m_ne U)
def m_B (D : va_G) (cA : Nat → ClassId) (base bS L y : Nat) (w u : mW) (t : State) : Prop := m_hd D cA base bS L t u t.heap ∧ u.1.length = w.1.length + (m_bg y).1 ∧ m_sl u.1 = m_sl w.1 + (m_bg y).2
def m_Qc (D : va_G) (cA : Nat → ClassId) (base bS L y : Nat) (w : mW) (Q : mQ) : Array Value → State → Outcome → State → Prop := if m_rt y = 0 then va_Qv (fun u : mW => Q none u) (m_B D cA base bS L y w) (fun q => base ≤ q) else va_Qi (fun (r : Int32) (u : mW) => Q (some (.inl r)) u) (m_B D cA base bS L y w) (fun q => base ≤ q)
/-- the contract of method y, at depth d -/
abbrev m_M (l : Launch) (D : va_G) (cA : Nat → ClassId) (base bS L d y : Nat) (as : List mV) (w : mW) (Q : mQ) : Prop := Met l (m_mn y) (m_ws y) (m_rm d y) (m_Pc D cA base bS L as w) (m_Qc D cA base bS L y w Q) (m_bg y).1 (m_bg y).2 (fun q => base ≤ q)
theorem m_blind {D : va_G} {cA : Nat → ClassId} {base bS L : Nat} {as : List mV} {w : mW} : FrameBlind (m_Pc D cA base bS L as w) := by
  intro a U g mk q
  obtain ⟨q0, q1, q2, q3⟩ := q
  exact ⟨q0, m_hd.moved (U := U) (U' := U.calling g mk a) (Vm.Alike.refl U.vm) q1, va_K.moved (u := U) (U := U.calling g mk a) (Vm.Alike.refl U.vm) q2, fun x hx hm => m_mv_same hm (rfl : U.vm = (U.calling g mk a).vm) (q3 x hx hm)⟩
theorem m_good (y : Nat) (hy : Cond.code (m_mn y) (m_by y) (m_mx y) (m_rf y) ∈ m_W0) : GoodIn m_W0 (m_ws y) := by
  intro x hx
  have h0 : x ∈ m_W0 := by
    rcases List.mem_cons.mp hx with rfl | h
    · exact hy
    · exact h
  exact ⟨h0, good_of_word (List.mem_filter.mp h0).2⟩
section MC
variable {D : va_G} {cA : Nat → ClassId} {base bS L : Nat} {p : Program} {l : Launch} {e : Env} {R : Room} {s : State} {m : MethodId} {args : Array Value} {below : List Frame} {meth : Method} {c : Code} {nL N0 S0 : Nat} {QQ : State → Prop} {pc : Nat} {ls : mL} {st : mS} {w : mW} {cc : ByteArray}
theorem m_pre {H : Heap} (as : List mV) (hh : m_hd D cA base bS L s w H) (hK : va_K D mCl (m_ty cA) s) (hN : m_ne s) : PreS s H (m_Pc D cA base bS L as w) (as.map (m_tv (m_ad base bS))) := by
  refine ⟨m_blind, fun U hU hW => ⟨rfl, by rw [hU]; exact hh.moved hW.alike, va_K.moved hW.alike hK, fun x hx hm => m_mv_warm hm hW (hN x hx hm)⟩⟩
theorem m_after {y : Nat} {H : Heap} {locs : List Loc} {lsA : Array Slot} {stk : List Value} {rest : mS} {av : Array Value} (hr : va_Run p l e R s m args below meth c H locs (w.1.length - N0) (m_sl w.1 - S0) (m_bg y).1 (m_bg y).2 (F0 m pc lsA stk) (rest.map (m_tv (m_ad base bS))) (m_Qc D cA base bS L y w (fun r w' => m_V D cA base bS L p l e R s m args below meth c nL N0 S0 QQ (pc + 3) ls (r.toList ++ rest) w') av) (fun q => base ≤ q))
    (h1 : ls.length = nL) (h2 : N0 ≤ w.1.length) (h3 : S0 ≤ m_sl w.1) (hl : m_lh (m_ad base bS) nL ls lsA) (hS : va_S (fun q => base ≤ q) s.heap H locs) : W p l e R s m args below meth c H locs (w.1.length - N0) (m_sl w.1 - S0) QQ (F0 m pc lsA stk) := by
  by_cases hrt : m_rt y = 0
  · rw [show m_Qc D cA base bS L y w (fun r w' => m_V D cA base bS L p l e R s m args below meth c nL N0 S0 QQ (pc + 3) ls (r.toList ++ rest) w') = va_Qv (fun u : mW => m_V D cA base bS L p l e R s m args below meth c nL N0 S0 QQ (pc + 3) ls ((none : Option mV).toList ++ rest) u) (m_B D cA base bS L y w) (fun q => base ≤ q) from if_pos hrt] at hr
    refine va_callv hr hS (fun _ _ h => h) (fun _ h => h) (fun u t H1 locs1 ht hvm hp hB hz hk hS1 => ?_)
    obtain ⟨hh, e1, e2⟩ := hB
    rw [ht] at hh
    refine W.cs (cells' := u.1.length - N0) (slots' := m_sl u.1 - S0) (by omega) (by omega) ?_
    exact hp h1 (by omega) (by omega) H1 locs1 lsA hl (hh.moved hvm.symm) hS1
  · rw [show m_Qc D cA base bS L y w (fun r w' => m_V D cA base bS L p l e R s m args below meth c nL N0 S0 QQ (pc + 3) ls (r.toList ++ rest) w') = va_Qi (fun (r : Int32) (u : mW) => m_V D cA base bS L p l e R s m args below meth c nL N0 S0 QQ (pc + 3) ls ((some (.inl r) : Option mV).toList ++ rest) u) (m_B D cA base bS L y w) (fun q => base ≤ q) from if_neg hrt] at hr
    refine va_calli hr hS (fun _ _ h => h) (fun _ h => h) (fun r u t H1 locs1 ht hvm hp hB hz hk hS1 => ?_)
    obtain ⟨hh, e1, e2⟩ := hB
    rw [ht] at hh
    refine W.cs (cells' := u.1.length - N0) (slots' := m_sl u.1 - S0) (by omega) (by omega) ?_
    exact hp h1 (by omega) (by omega) H1 locs1 lsA hl (hh.moved hvm.symm) hS1
/-- what is known of method y that can be called -/
def m_fy (y : Nat) : Prop := Cond.code (m_mn y) (m_by y) (m_mx y) (m_rf y) ∈ m_W0 ∧ Cond.initialized (m_mn y).cls ∈ m_W0 ∧ ((m_mn y).cls ≠ "java/lang/invoke/MethodHandle" ∧ (m_mn y).cls ≠ "java/lang/invoke/VarHandle" ∧ (parseMethodDescriptor (m_mn y).desc).map (fun d => d.parameters.length) = some (m_na y)) ∧ m_mx y ≤ 40 ∧
  (m_kd y = 0 → Cond.static (m_mn y) ∈ m_W0) ∧ (m_kd y ≠ 0 → Cond.instanceMethod (m_mn y) ∈ m_W0) ∧ (m_kd y = 1 → Cond.selects (m_mn y).cls (m_mn y) (m_mn y) ∈ m_W0 ∧ ∃ T N, mCl[m_oc y]? = some ((m_mn y).cls, T, N)) ∧ (m_kd y = 2 → (m_mn y).name = "<init>" ∧ m_rf y = none)
theorem mv_cr (hx : p.tables.exec = Jvm.exec) (hb : c.code = cc) (hml : c.maxLocals = nL) {own : String} {d me y kd idx b : Nat} {rest : mS} (ok : ∀ x ∈ m_W0, x.before args s = true) (hR1 : d + 1 ≤ R.frames) (hR2 : 64 * (d + 1) ≤ R.locals) (hR3 : (m_bg me).1 ≤ R.cells) (hR4 : (m_bg me).2 ≤ R.slots) (hown : s.vm.findClass own = some m.cls) (hK : va_K D mCl (m_ty cA) s) (hN : m_ne s) (hy : m_fy y) (hlink : m_lm args s own idx (m_mn y)) (hkd : (kd = 1 ∧ decode cc pc = .ok (.invokevirtual idx, 3)) ∨ (kd = 2 ∧ decode cc pc = .ok (.invokespecial idx, 3))) (hst : st.drop (m_na y) = .inr (some b) :: rest) (hn : m_na y ≤ st.length) (hky : m_kd y = kd) (hrest : rest.length ≤ 8) (hrecv : kd = 1 → w.1[b]? = some (0, m_oc y)) (hc1 : w.1.length + (m_bg y).1 ≤ N0 + (m_bg me).1) (hc2 : m_sl w.1 + (m_bg y).2 ≤ S0 + (m_bg me).2)
    (hM : m_M l D cA base bS L d y (.inr (some b) :: (st.take (m_na y)).reverse) w (fun r w' => m_V D cA base bS L p l e R s m args below meth c nL N0 S0 QQ (pc + 3) ls (r.toList ++ rest) w')) : m_V D cA base bS L p l e R s m args below meth c nL N0 S0 QQ pc ls st w := by
  intro h1 h2 h3 H locs lsA hl hh hS
  obtain ⟨y1, y2, y3, y4, -, y6, y7, y8⟩ := hy
  have hR : (m_rm d y).frames + 1 ≤ R.frames ∧ 8 + (m_mx y + 11) + (m_rm d y).locals ≤ R.locals := by
    show d + 1 ≤ R.frames ∧ 8 + (m_mx y + 11) + 64 * d ≤ R.locals
    omega
  have hstk : st.map (m_tv (m_ad base bS)) = (((st.take (m_na y)).reverse).map (m_tv (m_ad base bS))).reverse ++ .ref (m_ad base bS b) :: rest.map (m_tv (m_ad base bS)) := by
    rw [← List.map_reverse, List.reverse_reverse]
    have h9 : st = st.take (m_na y) ++ st.drop (m_na y) := (List.take_append_drop _ _).symm
    conv => lhs; rw [h9, hst, List.map_append]
    rfl
  have hlen : (((st.take (m_na y)).reverse).map (m_tv (m_ad base bS))).length = m_na y := by
    rw [List.length_map, List.length_reverse, List.length_take]
    omega
  have hroom : 2 * (F0 m pc lsA (st.map (m_tv (m_ad base bS)))).monitorRoom + ((rest.map (m_tv (m_ad base bS))).map fun v => v.category).sum ≤ 8 := lv_room (by rw [m_cats]; exact hrest)
  have hf : (w.1.length - N0) + (m_bg y).1 ≤ R.cells ∧ (m_sl w.1 - S0) + (m_bg y).2 ≤ R.slots := by
    omega
  have hsz : (F0 m pc lsA (st.map (m_tv (m_ad base bS)))).locals.size = nL := hl.1.1
  have hpre := m_pre (.inr (some b) :: (st.take (m_na y)).reverse) hh hK hN
  have S : CallFix p m c cc nL s args m_W0 own := ⟨hx, hb, hml, hown, ok⟩
  have hin := ok _ (y6 (by rw [hky]; rcases hkd with ⟨rfl, -⟩ | ⟨rfl, -⟩ <;> decide))
  rcases hkd with ⟨rfl, hd⟩ | ⟨rfl, hd⟩
  · obtain ⟨y9, T, N, y10⟩ := y7 hky
    have hb1 := hrecv rfl
    have e0 : m_ad base bS b = base + b := m_ad_lt (hh.lt hb1)
    obtain ⟨r', hr', cell, g1, g2, g3, -⟩ := hh.2.2.2 b (0, m_oc y) hb1
    have hrv : ∃ cellB : Cell, H[m_ad base bS b]? = some cellB ∧ cellB.vm.isStatics = false ∧ s.vm.findClass (m_mn y).cls = some cellB.cls := ⟨cell, by rw [e0]; exact g1, by rw [g3]; rfl, by rw [g2]; exact (hK.1 (m_oc y) _ y10).2.1⟩
    rcases hlink with hl1 | ⟨host, hl1⟩
    · exact m_after (va_runV (C := (m_mn y).cls) (b := m_ad base bS b) S hM ⟨callB_of (m_na y) ok (m_good y y1) rfl rfl rfl (ok _ y2) hl1 y3 hR, hin, ok _ y9⟩ ⟨hpre.1, hrv, hpre.2⟩ rfl hlen hsz hstk hroom hd hf) h1 h2 h3 hl hS
    · exact m_after (va_runVN (C := (m_mn y).cls) (b := m_ad base bS b) S hM ⟨va_cnB (m_na y) ok (m_good y y1) rfl rfl rfl hl1 (ok _ y2) y3 hR, hin, ok _ y9⟩ ⟨hpre.1, hrv, hpre.2⟩ rfl hlen hsz hstk hroom hd hf) h1 h2 h3 hl hS
  · obtain ⟨y9, y10⟩ := y8 hky
    have hw0 : m_ws y = Cond.code (m_mn y) (m_by y) (m_mx y) none :: m_W0 := by unfold m_ws; rw [y10]
    rcases hlink with hl1 | ⟨host, hl1⟩
    · exact m_after (va_runI (b := m_ad base bS b) S hM (cwI (m_na y) ok (m_good y y1) hw0 rfl rfl (ok _ y2) hl1 hin y9 y3 hR) hpre rfl hlen hsz hstk hroom hd hf) h1 h2 h3 hl hS
    · exact m_after (va_runIN (b := m_ad base bS b) S hM ⟨va_cnB (m_na y) ok (m_good y y1) hw0 rfl rfl hl1 (ok _ y2) y3 hR, y9, hin⟩ hpre rfl hlen hsz hstk hroom hd hf) h1 h2 h3 hl hS
theorem mv_cs (hx : p.tables.exec = Jvm.exec) (hb : c.code = cc) (hml : c.maxLocals = nL) {own : String} {d me y idx : Nat} (ok : ∀ x ∈ m_W0, x.before args s = true) (hR1 : d + 1 ≤ R.frames) (hR2 : 64 * (d + 1) ≤ R.locals) (hR3 : (m_bg me).1 ≤ R.cells) (hR4 : (m_bg me).2 ≤ R.slots) (hown : s.vm.findClass own = some m.cls) (hK : va_K D mCl (m_ty cA) s) (hN : m_ne s) (hy : m_fy y) (hlink : m_lm args s own idx (m_mn y)) (hd : decode cc pc = .ok (.invokestatic idx, 3)) (hn : m_na y ≤ st.length) (hky : m_kd y = 0) (hrest : (st.drop (m_na y)).length ≤ 8) (hc1 : w.1.length + (m_bg y).1 ≤ N0 + (m_bg me).1) (hc2 : m_sl w.1 + (m_bg y).2 ≤ S0 + (m_bg me).2)
    (hM : m_M l D cA base bS L d y (st.take (m_na y)).reverse w (fun r w' => m_V D cA base bS L p l e R s m args below meth c nL N0 S0 QQ (pc + 3) ls (r.toList ++ st.drop (m_na y)) w')) : m_V D cA base bS L p l e R s m args below meth c nL N0 S0 QQ pc ls st w := by
  intro h1 h2 h3 H locs lsA hl hh hS
  obtain ⟨y1, y2, y3, y4, y5, -, -, -⟩ := hy
  have hR : (m_rm d y).frames + 1 ≤ R.frames ∧ 8 + (m_mx y + 11) + (m_rm d y).locals ≤ R.locals := by
    show d + 1 ≤ R.frames ∧ 8 + (m_mx y + 11) + 64 * d ≤ R.locals
    omega
  have hstk : st.map (m_tv (m_ad base bS)) = (((st.take (m_na y)).reverse).map (m_tv (m_ad base bS))).reverse ++ (st.drop (m_na y)).map (m_tv (m_ad base bS)) := by
    rw [← List.map_reverse, List.reverse_reverse, ← List.map_append, List.take_append_drop]
  have hlen : (((st.take (m_na y)).reverse).map (m_tv (m_ad base bS))).length = m_na y := by
    rw [List.length_map, List.length_reverse, List.length_take]
    omega
  have hroom : 2 * (F0 m pc lsA (st.map (m_tv (m_ad base bS)))).monitorRoom + (((st.drop (m_na y)).map (m_tv (m_ad base bS))).map fun v => v.category).sum ≤ 8 := lv_room (by rw [m_cats]; exact hrest)
  have hf : (w.1.length - N0) + (m_bg y).1 ≤ R.cells ∧ (m_sl w.1 - S0) + (m_bg y).2 ≤ R.slots := by
    omega
  have hsz : (F0 m pc lsA (st.map (m_tv (m_ad base bS)))).locals.size = nL := hl.1.1
  have hpre := m_pre (st.take (m_na y)).reverse hh hK hN
  have S : CallFix p m c cc nL s args m_W0 own := ⟨hx, hb, hml, hown, ok⟩
  rcases hlink with hl1 | ⟨host, hl1⟩
  · exact m_after (va_runS S hM ⟨callB_of (m_na y) ok (m_good y y1) rfl rfl rfl (ok _ y2) hl1 y3 hR, ok _ (y5 hky)⟩ hpre rfl hlen hsz hstk hroom hd hf) h1 h2 h3 hl hS
  · exact m_after (va_runSN S hM ⟨va_cnB (m_na y) ok (m_good y y1) rfl rfl rfl hl1 (ok _ y2) y3 hR, ok _ (y5 hky), trivial⟩ hpre rfl hlen hsz hstk hroom hd hf) h1 h2 h3 hl hS
end MC
end
section
/-! facts of the tables: printed by wip/whole/gen_names2.py -/
theorem m_look {α : Type} {l : List (Nat × α)} {k : Nat} {v : α} (h : l.lookup k = some v) : (k, v) ∈ l := by
  induction l with
  | nil => cases h
  | cons a l ih =>
    obtain ⟨k', v'⟩ := a
    rw [List.lookup_cons] at h
    by_cases hk : k = k'
    · subst hk
      simp at h
      subst h
      exact List.mem_cons_self
    · rw [show (k == k') = false from by simp [hk]] at h
      exact List.mem_cons_of_mem _ (ih h)
theorem m_getD {α : Type} {l : List α} {d : α} {k : Nat} (P : α → Prop) (h : ∀ a ∈ l, P a) (hd : P d) : P (l.getD k d) := by
  rw [List.getD_eq_getElem?_getD]
  cases hk : l[k]? with
  | none => exact hd
  | some a => exact h a (List.mem_of_getElem? hk)
theorem m_wsin {ws : List Cond} (ps : List Nat) (h : ws = ps.filterMap (fun i => lw_tbl[i]?)) (hg : ws.all goodWord = true) : ∀ x ∈ ws, x ∈ m_W0 := by
  intro x hx
  have h1 := List.all_eq_true.mp hg x hx
  rw [h] at hx
  obtain ⟨i, -, hi⟩ := List.mem_filterMap.mp hx
  exact m_w i hi h1
theorem m_pl (y : Nat) : plainName (m_mn y).cls = true := m_getD (fun a : MethodName => plainName a.cls = true) (by decide +kernel) (by decide +kernel)
theorem m_occ {y : Nat} (h : m_oc y ≠ 9) : m_on y = m_cn (m_oc y) := by
  by_cases hy : y < 102
  · have h1 : ∀ y, y < 102 → m_oc y ≠ 9 → m_on y = m_cn (m_oc y) := by decide +kernel
    exact h1 y hy h
  · exact absurd (by unfold m_oc; rw [List.getD_eq_getElem?_getD, List.getElem?_eq_none (by simp only [List.length_cons, List.length_nil]; omega)]; rfl) h
theorem m_wi : Cond.arrayClass (newarray.typeOf .int) ∈ m_W0 := m_w 96 (by decide +kernel) rfl
theorem m_wz : Cond.arrayClass (newarray.typeOf .boolean) ∈ m_W0 := m_w 135 (by decide +kernel) rfl
theorem m_ff0 : m_ff 0 "PropagationDesk" mT0 8 mTy0 := ⟨rfl, rfl, m_wsin [239, 241, 243, 245, 247, 249, 251, 253] (by decide +kernel) (by decide +kernel), by decide +kernel, by decide +kernel, by decide +kernel⟩
theorem m_ff1 : m_ff 1 "PropagationDesk$Kinds" mT1 2 mTy1 := ⟨rfl, rfl, m_wsin [91, 93] (by decide +kernel) (by decide +kernel), by decide +kernel, by decide +kernel, by decide +kernel⟩
theorem m_ff2 : m_ff 2 "PropagationDesk$Plan" mT2 8 mTy2 := ⟨rfl, rfl, m_wsin [118, 120, 122, 124, 126, 128, 130, 132] (by decide +kernel) (by decide +kernel), by decide +kernel, by decide +kernel, by decide +kernel⟩
theorem m_ff3 : m_ff 3 "PropagationDesk$Transaction" mT3 8 mTy3 := ⟨rfl, rfl, m_wsin [164, 166, 168, 170, 172, 174, 176, 178] (by decide +kernel) (by decide +kernel), by decide +kernel, by decide +kernel, by decide +kernel⟩
theorem m_ff4 : m_ff 4 "PropagationDesk$Frame" mT4 8 mTy4 := ⟨rfl, rfl, m_wsin [195, 197, 199, 201, 203, 205, 207, 209] (by decide +kernel) (by decide +kernel), by decide +kernel, by decide +kernel, by decide +kernel⟩
theorem m_ff5 : m_ff 5 "PropagationDesk$Journal" mT5 3 mTy5 := ⟨rfl, rfl, m_wsin [224, 226, 228] (by decide +kernel) (by decide +kernel), by decide +kernel, by decide +kernel, by decide +kernel⟩
theorem m_ff6 : m_ff 6 "PropagationDeskModel" mT6 37 mTy6 := ⟨rfl, rfl, m_wsin [521, 523, 525, 527, 529, 531, 533, 535, 537, 539, 541, 543, 545, 547, 549, 551, 553, 555, 557, 559, 561, 563, 565, 567, 569, 571, 573, 575, 577, 579, 581, 583, 585, 587, 589, 591, 593] (by decide +kernel) (by decide +kernel), by decide +kernel, by decide +kernel, by decide +kernel⟩
def m_flq (c : Nat) (e : Nat × Nat × Nat) : Prop := ∃ C T N ty, m_ff e.2.1 C T N ty ∧ e.2.2 < N ∧ Cond.fieldLink (m_cn c) e.1 (T e.2.2).1 (T e.2.2).2.1 (T e.2.2).2.2.1 ∈ m_W0
theorem m_fl0_10 : m_flq 0 (10, 0, 0) := ⟨_, _, _, _, m_ff0, by decide, m_w 231 (by decide +kernel) (by decide +kernel)⟩
theorem m_fl0_18 : m_flq 0 (18, 0, 1) := ⟨_, _, _, _, m_ff0, by decide, m_w 232 (by decide +kernel) (by decide +kernel)⟩
theorem m_fl0_22 : m_flq 0 (22, 0, 3) := ⟨_, _, _, _, m_ff0, by decide, m_w 234 (by decide +kernel) (by decide +kernel)⟩
theorem m_fl0_28 : m_flq 0 (28, 0, 4) := ⟨_, _, _, _, m_ff0, by decide, m_w 235 (by decide +kernel) (by decide +kernel)⟩
theorem m_fl0_37 : m_flq 0 (37, 0, 5) := ⟨_, _, _, _, m_ff0, by decide, m_w 236 (by decide +kernel) (by decide +kernel)⟩
theorem m_fl0_41 : m_flq 0 (41, 0, 6) := ⟨_, _, _, _, m_ff0, by decide, m_w 237 (by decide +kernel) (by decide +kernel)⟩
theorem m_fl0_52 : m_flq 0 (52, 0, 2) := ⟨_, _, _, _, m_ff0, by decide, m_w 233 (by decide +kernel) (by decide +kernel)⟩
theorem m_fl0_56 : m_flq 0 (56, 2, 0) := ⟨_, _, _, _, m_ff2, by decide, m_w 106 (by decide +kernel) (by decide +kernel)⟩
theorem m_fl0_77 : m_flq 0 (77, 0, 7) := ⟨_, _, _, _, m_ff0, by decide, m_w 238 (by decide +kernel) (by decide +kernel)⟩
theorem m_fl0_95 : m_flq 0 (95, 5, 2) := ⟨_, _, _, _, m_ff5, by decide, m_w 223 (by decide +kernel) (by decide +kernel)⟩
theorem m_fl0_101 : m_flq 0 (101, 5, 0) := ⟨_, _, _, _, m_ff5, by decide, m_w 219 (by decide +kernel) (by decide +kernel)⟩
theorem m_fl0_104 : m_flq 0 (104, 5, 1) := ⟨_, _, _, _, m_ff5, by decide, m_w 221 (by decide +kernel) (by decide +kernel)⟩
theorem m_fl0_107 : m_flq 0 (107, 1, 1) := ⟨_, _, _, _, m_ff1, by decide, m_w 90 (by decide +kernel) (by decide +kernel)⟩
theorem m_fl0_114 : m_flq 0 (114, 2, 7) := ⟨_, _, _, _, m_ff2, by decide, m_w 117 (by decide +kernel) (by decide +kernel)⟩
theorem m_fl0_117 : m_flq 0 (117, 2, 4) := ⟨_, _, _, _, m_ff2, by decide, m_w 111 (by decide +kernel) (by decide +kernel)⟩
theorem m_fl0_120 : m_flq 0 (120, 2, 5) := ⟨_, _, _, _, m_ff2, by decide, m_w 113 (by decide +kernel) (by decide +kernel)⟩
theorem m_fl0_123 : m_flq 0 (123, 2, 6) := ⟨_, _, _, _, m_ff2, by decide, m_w 115 (by decide +kernel) (by decide +kernel)⟩
theorem m_fl0_146 : m_flq 0 (146, 4, 2) := ⟨_, _, _, _, m_ff4, by decide, m_w 186 (by decide +kernel) (by decide +kernel)⟩
theorem m_fl0_154 : m_flq 0 (154, 4, 3) := ⟨_, _, _, _, m_ff4, by decide, m_w 188 (by decide +kernel) (by decide +kernel)⟩
theorem m_fl0_157 : m_flq 0 (157, 4, 1) := ⟨_, _, _, _, m_ff4, by decide, m_w 184 (by decide +kernel) (by decide +kernel)⟩
theorem m_fl0_160 : m_flq 0 (160, 4, 0) := ⟨_, _, _, _, m_ff4, by decide, m_w 182 (by decide +kernel) (by decide +kernel)⟩
theorem m_fl0_166 : m_flq 0 (166, 4, 4) := ⟨_, _, _, _, m_ff4, by decide, m_w 190 (by decide +kernel) (by decide +kernel)⟩
theorem m_fl0_178 : m_flq 0 (178, 3, 7) := ⟨_, _, _, _, m_ff3, by decide, m_w 163 (by decide +kernel) (by decide +kernel)⟩
theorem m_fl0_181 : m_flq 0 (181, 4, 7) := ⟨_, _, _, _, m_ff4, by decide, m_w 194 (by decide +kernel) (by decide +kernel)⟩
theorem m_fl0_197 : m_flq 0 (197, 3, 6) := ⟨_, _, _, _, m_ff3, by decide, m_w 160 (by decide +kernel) (by decide +kernel)⟩
theorem m_fl0_200 : m_flq 0 (200, 3, 4) := ⟨_, _, _, _, m_ff3, by decide, m_w 156 (by decide +kernel) (by decide +kernel)⟩
theorem m_fl0_207 : m_flq 0 (207, 3, 5) := ⟨_, _, _, _, m_ff3, by decide, m_w 158 (by decide +kernel) (by decide +kernel)⟩
theorem m_fl0_241 : m_flq 0 (241, 3, 2) := ⟨_, _, _, _, m_ff3, by decide, m_w 152 (by decide +kernel) (by decide +kernel)⟩
theorem m_fl0_248 : m_flq 0 (248, 3, 3) := ⟨_, _, _, _, m_ff3, by decide, m_w 154 (by decide +kernel) (by decide +kernel)⟩
theorem m_fls0 : ∀ e ∈ m_fls.getD 0 [], m_flq 0 e := List.forall_mem_cons.mpr ⟨m_fl0_10, List.forall_mem_cons.mpr ⟨m_fl0_18, List.forall_mem_cons.mpr ⟨m_fl0_22, List.forall_mem_cons.mpr ⟨m_fl0_28, List.forall_mem_cons.mpr ⟨m_fl0_37, List.forall_mem_cons.mpr ⟨m_fl0_41, List.forall_mem_cons.mpr ⟨m_fl0_52, List.forall_mem_cons.mpr ⟨m_fl0_56, List.forall_mem_cons.mpr ⟨m_fl0_77, List.forall_mem_cons.mpr ⟨m_fl0_95, List.forall_mem_cons.mpr ⟨m_fl0_101, List.forall_mem_cons.mpr ⟨m_fl0_104, List.forall_mem_cons.mpr ⟨m_fl0_107, List.forall_mem_cons.mpr ⟨m_fl0_114, List.forall_mem_cons.mpr ⟨m_fl0_117, List.forall_mem_cons.mpr ⟨m_fl0_120, List.forall_mem_cons.mpr ⟨m_fl0_123, List.forall_mem_cons.mpr ⟨m_fl0_146, List.forall_mem_cons.mpr ⟨m_fl0_154, List.forall_mem_cons.mpr ⟨m_fl0_157, List.forall_mem_cons.mpr ⟨m_fl0_160, List.forall_mem_cons.mpr ⟨m_fl0_166, List.forall_mem_cons.mpr ⟨m_fl0_178, List.forall_mem_cons.mpr ⟨m_fl0_181, List.forall_mem_cons.mpr ⟨m_fl0_197, List.forall_mem_cons.mpr ⟨m_fl0_200, List.forall_mem_cons.mpr ⟨m_fl0_207, List.forall_mem_cons.mpr ⟨m_fl0_241, List.forall_mem_cons.mpr ⟨m_fl0_248, fun _ h => absurd h List.not_mem_nil⟩⟩⟩⟩⟩⟩⟩⟩⟩⟩⟩⟩⟩⟩⟩⟩⟩⟩⟩⟩⟩⟩⟩⟩⟩⟩⟩⟩⟩
theorem m_fl1_19 : m_flq 1 (19, 1, 0) := ⟨_, _, _, _, m_ff1, by decide, m_w 88 (by decide +kernel) (by decide +kernel)⟩
theorem m_fl1_24 : m_flq 1 (24, 1, 1) := ⟨_, _, _, _, m_ff1, by decide, m_w 89 (by decide +kernel) (by decide +kernel)⟩
theorem m_fls1 : ∀ e ∈ m_fls.getD 1 [], m_flq 1 e := List.forall_mem_cons.mpr ⟨m_fl1_19, List.forall_mem_cons.mpr ⟨m_fl1_24, fun _ h => absurd h List.not_mem_nil⟩⟩
theorem m_fl2_9 : m_flq 2 (9, 2, 1) := ⟨_, _, _, _, m_ff2, by decide, m_w 107 (by decide +kernel) (by decide +kernel)⟩
theorem m_fl2_15 : m_flq 2 (15, 2, 2) := ⟨_, _, _, _, m_ff2, by decide, m_w 108 (by decide +kernel) (by decide +kernel)⟩
theorem m_fl2_19 : m_flq 2 (19, 2, 4) := ⟨_, _, _, _, m_ff2, by decide, m_w 110 (by decide +kernel) (by decide +kernel)⟩
theorem m_fl2_22 : m_flq 2 (22, 2, 5) := ⟨_, _, _, _, m_ff2, by decide, m_w 112 (by decide +kernel) (by decide +kernel)⟩
theorem m_fl2_25 : m_flq 2 (25, 2, 6) := ⟨_, _, _, _, m_ff2, by decide, m_w 114 (by decide +kernel) (by decide +kernel)⟩
theorem m_fl2_28 : m_flq 2 (28, 2, 3) := ⟨_, _, _, _, m_ff2, by decide, m_w 109 (by decide +kernel) (by decide +kernel)⟩
theorem m_fl2_32 : m_flq 2 (32, 2, 7) := ⟨_, _, _, _, m_ff2, by decide, m_w 116 (by decide +kernel) (by decide +kernel)⟩
theorem m_fls2 : ∀ e ∈ m_fls.getD 2 [], m_flq 2 e := List.forall_mem_cons.mpr ⟨m_fl2_9, List.forall_mem_cons.mpr ⟨m_fl2_15, List.forall_mem_cons.mpr ⟨m_fl2_19, List.forall_mem_cons.mpr ⟨m_fl2_22, List.forall_mem_cons.mpr ⟨m_fl2_25, List.forall_mem_cons.mpr ⟨m_fl2_28, List.forall_mem_cons.mpr ⟨m_fl2_32, fun _ h => absurd h List.not_mem_nil⟩⟩⟩⟩⟩⟩⟩
theorem m_fl3_9 : m_flq 3 (9, 3, 0) := ⟨_, _, _, _, m_ff3, by decide, m_w 147 (by decide +kernel) (by decide +kernel)⟩
theorem m_fl3_15 : m_flq 3 (15, 3, 1) := ⟨_, _, _, _, m_ff3, by decide, m_w 149 (by decide +kernel) (by decide +kernel)⟩
theorem m_fl3_19 : m_flq 3 (19, 3, 2) := ⟨_, _, _, _, m_ff3, by decide, m_w 151 (by decide +kernel) (by decide +kernel)⟩
theorem m_fl3_22 : m_flq 3 (22, 3, 3) := ⟨_, _, _, _, m_ff3, by decide, m_w 153 (by decide +kernel) (by decide +kernel)⟩
theorem m_fl3_25 : m_flq 3 (25, 3, 4) := ⟨_, _, _, _, m_ff3, by decide, m_w 155 (by decide +kernel) (by decide +kernel)⟩
theorem m_fl3_28 : m_flq 3 (28, 3, 5) := ⟨_, _, _, _, m_ff3, by decide, m_w 157 (by decide +kernel) (by decide +kernel)⟩
theorem m_fl3_31 : m_flq 3 (31, 3, 6) := ⟨_, _, _, _, m_ff3, by decide, m_w 159 (by decide +kernel) (by decide +kernel)⟩
theorem m_fls3 : ∀ e ∈ m_fls.getD 3 [], m_flq 3 e := List.forall_mem_cons.mpr ⟨m_fl3_9, List.forall_mem_cons.mpr ⟨m_fl3_15, List.forall_mem_cons.mpr ⟨m_fl3_19, List.forall_mem_cons.mpr ⟨m_fl3_22, List.forall_mem_cons.mpr ⟨m_fl3_25, List.forall_mem_cons.mpr ⟨m_fl3_28, List.forall_mem_cons.mpr ⟨m_fl3_31, fun _ h => absurd h List.not_mem_nil⟩⟩⟩⟩⟩⟩⟩
theorem m_fl4_18 : m_flq 4 (18, 4, 5) := ⟨_, _, _, _, m_ff4, by decide, m_w 191 (by decide +kernel) (by decide +kernel)⟩
theorem m_fl4_22 : m_flq 4 (22, 4, 6) := ⟨_, _, _, _, m_ff4, by decide, m_w 192 (by decide +kernel) (by decide +kernel)⟩
theorem m_fl4_40 : m_flq 4 (40, 3, 7) := ⟨_, _, _, _, m_ff3, by decide, m_w 162 (by decide +kernel) (by decide +kernel)⟩
theorem m_fl4_43 : m_flq 4 (43, 4, 7) := ⟨_, _, _, _, m_ff4, by decide, m_w 193 (by decide +kernel) (by decide +kernel)⟩
theorem m_fl4_46 : m_flq 4 (46, 3, 0) := ⟨_, _, _, _, m_ff3, by decide, m_w 148 (by decide +kernel) (by decide +kernel)⟩
theorem m_fl4_49 : m_flq 4 (49, 3, 1) := ⟨_, _, _, _, m_ff3, by decide, m_w 150 (by decide +kernel) (by decide +kernel)⟩
theorem m_fls4 : ∀ e ∈ m_fls.getD 4 [], m_flq 4 e := List.forall_mem_cons.mpr ⟨m_fl4_18, List.forall_mem_cons.mpr ⟨m_fl4_22, List.forall_mem_cons.mpr ⟨m_fl4_40, List.forall_mem_cons.mpr ⟨m_fl4_43, List.forall_mem_cons.mpr ⟨m_fl4_46, List.forall_mem_cons.mpr ⟨m_fl4_49, fun _ h => absurd h List.not_mem_nil⟩⟩⟩⟩⟩⟩
theorem m_fl5_9 : m_flq 5 (9, 5, 0) := ⟨_, _, _, _, m_ff5, by decide, m_w 218 (by decide +kernel) (by decide +kernel)⟩
theorem m_fl5_15 : m_flq 5 (15, 5, 1) := ⟨_, _, _, _, m_ff5, by decide, m_w 220 (by decide +kernel) (by decide +kernel)⟩
theorem m_fl5_18 : m_flq 5 (18, 5, 2) := ⟨_, _, _, _, m_ff5, by decide, m_w 222 (by decide +kernel) (by decide +kernel)⟩
theorem m_fls5 : ∀ e ∈ m_fls.getD 5 [], m_flq 5 e := List.forall_mem_cons.mpr ⟨m_fl5_9, List.forall_mem_cons.mpr ⟨m_fl5_15, List.forall_mem_cons.mpr ⟨m_fl5_18, fun _ h => absurd h List.not_mem_nil⟩⟩⟩
theorem m_fl6_7 : m_flq 6 (7, 6, 0) := ⟨_, _, _, _, m_ff6, by decide, m_w 484 (by decide +kernel) (by decide +kernel)⟩
theorem m_fl6_13 : m_flq 6 (13, 6, 1) := ⟨_, _, _, _, m_ff6, by decide, m_w 485 (by decide +kernel) (by decide +kernel)⟩
theorem m_fl6_17 : m_flq 6 (17, 6, 3) := ⟨_, _, _, _, m_ff6, by decide, m_w 487 (by decide +kernel) (by decide +kernel)⟩
theorem m_fl6_20 : m_flq 6 (20, 6, 4) := ⟨_, _, _, _, m_ff6, by decide, m_w 488 (by decide +kernel) (by decide +kernel)⟩
theorem m_fl6_23 : m_flq 6 (23, 6, 5) := ⟨_, _, _, _, m_ff6, by decide, m_w 489 (by decide +kernel) (by decide +kernel)⟩
theorem m_fl6_26 : m_flq 6 (26, 6, 6) := ⟨_, _, _, _, m_ff6, by decide, m_w 490 (by decide +kernel) (by decide +kernel)⟩
theorem m_fl6_30 : m_flq 6 (30, 6, 7) := ⟨_, _, _, _, m_ff6, by decide, m_w 491 (by decide +kernel) (by decide +kernel)⟩
theorem m_fl6_33 : m_flq 6 (33, 6, 8) := ⟨_, _, _, _, m_ff6, by decide, m_w 492 (by decide +kernel) (by decide +kernel)⟩
theorem m_fl6_36 : m_flq 6 (36, 6, 9) := ⟨_, _, _, _, m_ff6, by decide, m_w 493 (by decide +kernel) (by decide +kernel)⟩
theorem m_fl6_39 : m_flq 6 (39, 6, 10) := ⟨_, _, _, _, m_ff6, by decide, m_w 494 (by decide +kernel) (by decide +kernel)⟩
theorem m_fl6_42 : m_flq 6 (42, 6, 11) := ⟨_, _, _, _, m_ff6, by decide, m_w 495 (by decide +kernel) (by decide +kernel)⟩
theorem m_fl6_45 : m_flq 6 (45, 6, 12) := ⟨_, _, _, _, m_ff6, by decide, m_w 496 (by decide +kernel) (by decide +kernel)⟩
theorem m_fl6_48 : m_flq 6 (48, 6, 15) := ⟨_, _, _, _, m_ff6, by decide, m_w 499 (by decide +kernel) (by decide +kernel)⟩
theorem m_fl6_51 : m_flq 6 (51, 6, 16) := ⟨_, _, _, _, m_ff6, by decide, m_w 500 (by decide +kernel) (by decide +kernel)⟩
theorem m_fl6_54 : m_flq 6 (54, 6, 20) := ⟨_, _, _, _, m_ff6, by decide, m_w 504 (by decide +kernel) (by decide +kernel)⟩
theorem m_fl6_57 : m_flq 6 (57, 6, 21) := ⟨_, _, _, _, m_ff6, by decide, m_w 505 (by decide +kernel) (by decide +kernel)⟩
theorem m_fl6_60 : m_flq 6 (60, 6, 22) := ⟨_, _, _, _, m_ff6, by decide, m_w 506 (by decide +kernel) (by decide +kernel)⟩
theorem m_fl6_63 : m_flq 6 (63, 6, 23) := ⟨_, _, _, _, m_ff6, by decide, m_w 507 (by decide +kernel) (by decide +kernel)⟩
theorem m_fl6_66 : m_flq 6 (66, 6, 24) := ⟨_, _, _, _, m_ff6, by decide, m_w 508 (by decide +kernel) (by decide +kernel)⟩
theorem m_fl6_69 : m_flq 6 (69, 6, 25) := ⟨_, _, _, _, m_ff6, by decide, m_w 509 (by decide +kernel) (by decide +kernel)⟩
theorem m_fl6_72 : m_flq 6 (72, 6, 26) := ⟨_, _, _, _, m_ff6, by decide, m_w 510 (by decide +kernel) (by decide +kernel)⟩
theorem m_fl6_75 : m_flq 6 (75, 6, 27) := ⟨_, _, _, _, m_ff6, by decide, m_w 511 (by decide +kernel) (by decide +kernel)⟩
theorem m_fl6_78 : m_flq 6 (78, 6, 28) := ⟨_, _, _, _, m_ff6, by decide, m_w 512 (by decide +kernel) (by decide +kernel)⟩
theorem m_fl6_81 : m_flq 6 (81, 6, 29) := ⟨_, _, _, _, m_ff6, by decide, m_w 513 (by decide +kernel) (by decide +kernel)⟩
theorem m_fl6_84 : m_flq 6 (84, 6, 30) := ⟨_, _, _, _, m_ff6, by decide, m_w 514 (by decide +kernel) (by decide +kernel)⟩
theorem m_fl6_87 : m_flq 6 (87, 6, 31) := ⟨_, _, _, _, m_ff6, by decide, m_w 515 (by decide +kernel) (by decide +kernel)⟩
theorem m_fl6_90 : m_flq 6 (90, 6, 32) := ⟨_, _, _, _, m_ff6, by decide, m_w 516 (by decide +kernel) (by decide +kernel)⟩
theorem m_fl6_93 : m_flq 6 (93, 6, 33) := ⟨_, _, _, _, m_ff6, by decide, m_w 517 (by decide +kernel) (by decide +kernel)⟩
theorem m_fl6_96 : m_flq 6 (96, 6, 34) := ⟨_, _, _, _, m_ff6, by decide, m_w 518 (by decide +kernel) (by decide +kernel)⟩
theorem m_fl6_99 : m_flq 6 (99, 6, 35) := ⟨_, _, _, _, m_ff6, by decide, m_w 519 (by decide +kernel) (by decide +kernel)⟩
theorem m_fl6_102 : m_flq 6 (102, 6, 36) := ⟨_, _, _, _, m_ff6, by decide, m_w 520 (by decide +kernel) (by decide +kernel)⟩
theorem m_fl6_105 : m_flq 6 (105, 6, 2) := ⟨_, _, _, _, m_ff6, by decide, m_w 486 (by decide +kernel) (by decide +kernel)⟩
theorem m_fl6_127 : m_flq 6 (127, 6, 14) := ⟨_, _, _, _, m_ff6, by decide, m_w 498 (by decide +kernel) (by decide +kernel)⟩
theorem m_fl6_142 : m_flq 6 (142, 6, 18) := ⟨_, _, _, _, m_ff6, by decide, m_w 502 (by decide +kernel) (by decide +kernel)⟩
theorem m_fl6_145 : m_flq 6 (145, 6, 13) := ⟨_, _, _, _, m_ff6, by decide, m_w 497 (by decide +kernel) (by decide +kernel)⟩
theorem m_fl6_148 : m_flq 6 (148, 6, 17) := ⟨_, _, _, _, m_ff6, by decide, m_w 501 (by decide +kernel) (by decide +kernel)⟩
theorem m_fl6_170 : m_flq 6 (170, 6, 19) := ⟨_, _, _, _, m_ff6, by decide, m_w 503 (by decide +kernel) (by decide +kernel)⟩
theorem m_fls6 : ∀ e ∈ m_fls.getD 6 [], m_flq 6 e := List.forall_mem_cons.mpr ⟨m_fl6_7, List.forall_mem_cons.mpr ⟨m_fl6_13, List.forall_mem_cons.mpr ⟨m_fl6_17, List.forall_mem_cons.mpr ⟨m_fl6_20, List.forall_mem_cons.mpr ⟨m_fl6_23, List.forall_mem_cons.mpr ⟨m_fl6_26, List.forall_mem_cons.mpr ⟨m_fl6_30, List.forall_mem_cons.mpr ⟨m_fl6_33, List.forall_mem_cons.mpr ⟨m_fl6_36, List.forall_mem_cons.mpr ⟨m_fl6_39, List.forall_mem_cons.mpr ⟨m_fl6_42, List.forall_mem_cons.mpr ⟨m_fl6_45, List.forall_mem_cons.mpr ⟨m_fl6_48, List.forall_mem_cons.mpr ⟨m_fl6_51, List.forall_mem_cons.mpr ⟨m_fl6_54, List.forall_mem_cons.mpr ⟨m_fl6_57, List.forall_mem_cons.mpr ⟨m_fl6_60, List.forall_mem_cons.mpr ⟨m_fl6_63, List.forall_mem_cons.mpr ⟨m_fl6_66, List.forall_mem_cons.mpr ⟨m_fl6_69, List.forall_mem_cons.mpr ⟨m_fl6_72, List.forall_mem_cons.mpr ⟨m_fl6_75, List.forall_mem_cons.mpr ⟨m_fl6_78, List.forall_mem_cons.mpr ⟨m_fl6_81, List.forall_mem_cons.mpr ⟨m_fl6_84, List.forall_mem_cons.mpr ⟨m_fl6_87, List.forall_mem_cons.mpr ⟨m_fl6_90, List.forall_mem_cons.mpr ⟨m_fl6_93, List.forall_mem_cons.mpr ⟨m_fl6_96, List.forall_mem_cons.mpr ⟨m_fl6_99, List.forall_mem_cons.mpr ⟨m_fl6_102, List.forall_mem_cons.mpr ⟨m_fl6_105, List.forall_mem_cons.mpr ⟨m_fl6_127, List.forall_mem_cons.mpr ⟨m_fl6_142, List.forall_mem_cons.mpr ⟨m_fl6_145, List.forall_mem_cons.mpr ⟨m_fl6_148, List.forall_mem_cons.mpr ⟨m_fl6_170, fun _ h => absurd h List.not_mem_nil⟩⟩⟩⟩⟩⟩⟩⟩⟩⟩⟩⟩⟩⟩⟩⟩⟩⟩⟩⟩⟩⟩⟩⟩⟩⟩⟩⟩⟩⟩⟩⟩⟩⟩⟩⟩⟩
theorem m_fls7 : ∀ e ∈ m_fls.getD 7 [], m_flq 7 e := fun _ h => absurd h List.not_mem_nil
theorem m_fls8 : ∀ e ∈ m_fls.getD 8 [], m_flq 8 e := fun _ h => absurd h List.not_mem_nil
theorem m_fps0 : ∀ e ∈ m_fps.getD 0 [], m_flq 0 e := List.forall_mem_cons.mpr ⟨m_fl0_10, List.forall_mem_cons.mpr ⟨m_fl0_18, List.forall_mem_cons.mpr ⟨m_fl0_22, List.forall_mem_cons.mpr ⟨m_fl0_28, List.forall_mem_cons.mpr ⟨m_fl0_37, List.forall_mem_cons.mpr ⟨m_fl0_41, List.forall_mem_cons.mpr ⟨m_fl0_52, List.forall_mem_cons.mpr ⟨m_fl0_56, List.forall_mem_cons.mpr ⟨m_fl0_77, List.forall_mem_cons.mpr ⟨m_fl0_146, List.forall_mem_cons.mpr ⟨m_fl0_154, List.forall_mem_cons.mpr ⟨m_fl0_157, List.forall_mem_cons.mpr ⟨m_fl0_166, List.forall_mem_cons.mpr ⟨m_fl0_178, fun _ h => absurd h List.not_mem_nil⟩⟩⟩⟩⟩⟩⟩⟩⟩⟩⟩⟩⟩⟩
theorem m_fps1 : ∀ e ∈ m_fps.getD 1 [], m_flq 1 e := List.forall_mem_cons.mpr ⟨m_fl1_19, List.forall_mem_cons.mpr ⟨m_fl1_24, fun _ h => absurd h List.not_mem_nil⟩⟩
theorem m_fps2 : ∀ e ∈ m_fps.getD 2 [], m_flq 2 e := List.forall_mem_cons.mpr ⟨m_fl2_9, List.forall_mem_cons.mpr ⟨m_fl2_15, List.forall_mem_cons.mpr ⟨m_fl2_19, List.forall_mem_cons.mpr ⟨m_fl2_22, List.forall_mem_cons.mpr ⟨m_fl2_25, List.forall_mem_cons.mpr ⟨m_fl2_28, List.forall_mem_cons.mpr ⟨m_fl2_32, fun _ h => absurd h List.not_mem_nil⟩⟩⟩⟩⟩⟩⟩
theorem m_fl3_35 : m_flq 3 (35, 3, 7) := ⟨_, _, _, _, m_ff3, by decide, m_w 161 (by decide +kernel) (by decide +kernel)⟩
theorem m_fps3 : ∀ e ∈ m_fps.getD 3 [], m_flq 3 e := List.forall_mem_cons.mpr ⟨m_fl3_9, List.forall_mem_cons.mpr ⟨m_fl3_15, List.forall_mem_cons.mpr ⟨m_fl3_19, List.forall_mem_cons.mpr ⟨m_fl3_22, List.forall_mem_cons.mpr ⟨m_fl3_25, List.forall_mem_cons.mpr ⟨m_fl3_28, List.forall_mem_cons.mpr ⟨m_fl3_31, List.forall_mem_cons.mpr ⟨m_fl3_35, fun _ h => absurd h List.not_mem_nil⟩⟩⟩⟩⟩⟩⟩⟩
theorem m_fl4_12 : m_flq 4 (12, 4, 0) := ⟨_, _, _, _, m_ff4, by decide, m_w 181 (by decide +kernel) (by decide +kernel)⟩
theorem m_fl4_26 : m_flq 4 (26, 4, 1) := ⟨_, _, _, _, m_ff4, by decide, m_w 183 (by decide +kernel) (by decide +kernel)⟩
theorem m_fl4_29 : m_flq 4 (29, 4, 2) := ⟨_, _, _, _, m_ff4, by decide, m_w 185 (by decide +kernel) (by decide +kernel)⟩
theorem m_fl4_32 : m_flq 4 (32, 4, 3) := ⟨_, _, _, _, m_ff4, by decide, m_w 187 (by decide +kernel) (by decide +kernel)⟩
theorem m_fl4_36 : m_flq 4 (36, 4, 4) := ⟨_, _, _, _, m_ff4, by decide, m_w 189 (by decide +kernel) (by decide +kernel)⟩
theorem m_fps4 : ∀ e ∈ m_fps.getD 4 [], m_flq 4 e := List.forall_mem_cons.mpr ⟨m_fl4_12, List.forall_mem_cons.mpr ⟨m_fl4_18, List.forall_mem_cons.mpr ⟨m_fl4_22, List.forall_mem_cons.mpr ⟨m_fl4_26, List.forall_mem_cons.mpr ⟨m_fl4_29, List.forall_mem_cons.mpr ⟨m_fl4_32, List.forall_mem_cons.mpr ⟨m_fl4_36, List.forall_mem_cons.mpr ⟨m_fl4_40, List.forall_mem_cons.mpr ⟨m_fl4_43, fun _ h => absurd h List.not_mem_nil⟩⟩⟩⟩⟩⟩⟩⟩⟩
theorem m_fps5 : ∀ e ∈ m_fps.getD 5 [], m_flq 5 e := List.forall_mem_cons.mpr ⟨m_fl5_9, List.forall_mem_cons.mpr ⟨m_fl5_15, List.forall_mem_cons.mpr ⟨m_fl5_18, fun _ h => absurd h List.not_mem_nil⟩⟩⟩
theorem m_fps6 : ∀ e ∈ m_fps.getD 6 [], m_flq 6 e := List.forall_mem_cons.mpr ⟨m_fl6_7, List.forall_mem_cons.mpr ⟨m_fl6_13, List.forall_mem_cons.mpr ⟨m_fl6_17, List.forall_mem_cons.mpr ⟨m_fl6_20, List.forall_mem_cons.mpr ⟨m_fl6_23, List.forall_mem_cons.mpr ⟨m_fl6_26, List.forall_mem_cons.mpr ⟨m_fl6_30, List.forall_mem_cons.mpr ⟨m_fl6_33, List.forall_mem_cons.mpr ⟨m_fl6_36, List.forall_mem_cons.mpr ⟨m_fl6_39, List.forall_mem_cons.mpr ⟨m_fl6_42, List.forall_mem_cons.mpr ⟨m_fl6_45, List.forall_mem_cons.mpr ⟨m_fl6_48, List.forall_mem_cons.mpr ⟨m_fl6_51, List.forall_mem_cons.mpr ⟨m_fl6_54, List.forall_mem_cons.mpr ⟨m_fl6_57, List.forall_mem_cons.mpr ⟨m_fl6_60, List.forall_mem_cons.mpr ⟨m_fl6_63, List.forall_mem_cons.mpr ⟨m_fl6_66, List.forall_mem_cons.mpr ⟨m_fl6_69, List.forall_mem_cons.mpr ⟨m_fl6_72, List.forall_mem_cons.mpr ⟨m_fl6_75, List.forall_mem_cons.mpr ⟨m_fl6_78, List.forall_mem_cons.mpr ⟨m_fl6_81, List.forall_mem_cons.mpr ⟨m_fl6_84, List.forall_mem_cons.mpr ⟨m_fl6_87, List.forall_mem_cons.mpr ⟨m_fl6_90, List.forall_mem_cons.mpr ⟨m_fl6_93, List.forall_mem_cons.mpr ⟨m_fl6_96, List.forall_mem_cons.mpr ⟨m_fl6_99, List.forall_mem_cons.mpr ⟨m_fl6_102, List.forall_mem_cons.mpr ⟨m_fl6_105, List.forall_mem_cons.mpr ⟨m_fl6_127, List.forall_mem_cons.mpr ⟨m_fl6_142, List.forall_mem_cons.mpr ⟨m_fl6_145, List.forall_mem_cons.mpr ⟨m_fl6_148, List.forall_mem_cons.mpr ⟨m_fl6_170, fun _ h => absurd h List.not_mem_nil⟩⟩⟩⟩⟩⟩⟩⟩⟩⟩⟩⟩⟩⟩⟩⟩⟩⟩⟩⟩⟩⟩⟩⟩⟩⟩⟩⟩⟩⟩⟩⟩⟩⟩⟩⟩⟩
theorem m_fps7 : ∀ e ∈ m_fps.getD 7 [], m_flq 7 e := fun _ h => absurd h List.not_mem_nil
theorem m_fps8 : ∀ e ∈ m_fps.getD 8 [], m_flq 8 e := fun _ h => absurd h List.not_mem_nil
theorem m_fls_all (c : Nat) : ∀ e ∈ m_fls.getD c [], m_flq c e := by
  match c with
  | 0 => exact m_fls0
  | 1 => exact m_fls1
  | 2 => exact m_fls2
  | 3 => exact m_fls3
  | 4 => exact m_fls4
  | 5 => exact m_fls5
  | 6 => exact m_fls6
  | 7 => exact m_fls7
  | 8 => exact m_fls8
  | n + 9 =>
    intro e he
    exact absurd he (by rw [show m_fls.getD (n + 9) [] = [] from rfl]; exact List.not_mem_nil)
theorem m_fps_all (c : Nat) : ∀ e ∈ m_fps.getD c [], m_flq c e := by
  match c with
  | 0 => exact m_fps0
  | 1 => exact m_fps1
  | 2 => exact m_fps2
  | 3 => exact m_fps3
  | 4 => exact m_fps4
  | 5 => exact m_fps5
  | 6 => exact m_fps6
  | 7 => exact m_fps7
  | 8 => exact m_fps8
  | n + 9 =>
    intro e he
    exact absurd he (by rw [show m_fps.getD (n + 9) [] = [] from rfl]; exact List.not_mem_nil)
theorem m_fl_oc {y : Nat} {α : Type} {l : List (List α)} (h9 : l.getD 9 [] = []) (e : α) (h : e ∈ l.getD (m_oc y) []) : m_on y = m_cn (m_oc y) := m_occ (fun h1 => by rw [h1, h9] at h; cases h)
theorem m_fl_ok {me idx ci j : Nat} (h : m_fl me idx = some (ci, j)) : ∃ C T N ty, m_ff ci C T N ty ∧ j < N ∧ m_lkw (m_on me) idx T j := by
  have hm := m_look h
  rw [m_fl_oc rfl _ hm]
  obtain ⟨C, T, N, ty, h1, h2, h3⟩ := m_fls_all _ _ hm
  exact ⟨C, T, N, ty, h1, h2, Or.inl h3⟩
theorem m_kd2 {y : Nat} (h : m_kd y = 2) : (m_mn y).name = "<init>" := by
  by_cases hy : y < 102
  · have h1 : ∀ y, y < 102 → m_kd y = 2 → (m_mn y).name = "<init>" := by decide +kernel
    exact h1 y hy h
  · exact absurd h (by unfold m_kd; rw [List.getD_eq_getElem?_getD, List.getElem?_eq_none (by simp only [List.length_cons, List.length_nil]; omega)]; decide)
theorem m_fz_ok {ci j N : Nat} {C : String} {T : u_T} {ty : Nat → FieldType} (h : m_ff ci C T N ty) (hj : j < N) : m_fz ci j = (T j).2.2.2 ∧ (T j).1 = m_cn ci := by
  have h1 := h.1
  match ci with
  | 0 =>
    have h1 : some ("PropagationDesk", mT0, 8) = some (C, T, N) := h1
    cases h1
    exact (by decide +kernel : ∀ j, j < 8 → m_fz 0 j = (mT0 j).2.2.2 ∧ (mT0 j).1 = m_cn 0) j hj
  | 1 =>
    have h1 : some ("PropagationDesk$Kinds", mT1, 2) = some (C, T, N) := h1
    cases h1
    exact (by decide +kernel : ∀ j, j < 2 → m_fz 1 j = (mT1 j).2.2.2 ∧ (mT1 j).1 = m_cn 1) j hj
  | 2 =>
    have h1 : some ("PropagationDesk$Plan", mT2, 8) = some (C, T, N) := h1
    cases h1
    exact (by decide +kernel : ∀ j, j < 8 → m_fz 2 j = (mT2 j).2.2.2 ∧ (mT2 j).1 = m_cn 2) j hj
  | 3 =>
    have h1 : some ("PropagationDesk$Transaction", mT3, 8) = some (C, T, N) := h1
    cases h1
    exact (by decide +kernel : ∀ j, j < 8 → m_fz 3 j = (mT3 j).2.2.2 ∧ (mT3 j).1 = m_cn 3) j hj
  | 4 =>
    have h1 : some ("PropagationDesk$Frame", mT4, 8) = some (C, T, N) := h1
    cases h1
    exact (by decide +kernel : ∀ j, j < 8 → m_fz 4 j = (mT4 j).2.2.2 ∧ (mT4 j).1 = m_cn 4) j hj
  | 5 =>
    have h1 : some ("PropagationDesk$Journal", mT5, 3) = some (C, T, N) := h1
    cases h1
    exact (by decide +kernel : ∀ j, j < 3 → m_fz 5 j = (mT5 j).2.2.2 ∧ (mT5 j).1 = m_cn 5) j hj
  | 6 =>
    have h1 : some ("PropagationDeskModel", mT6, 37) = some (C, T, N) := h1
    cases h1
    exact (by decide +kernel : ∀ j, j < 37 → m_fz 6 j = (mT6 j).2.2.2 ∧ (mT6 j).1 = m_cn 6) j hj
  | n + 7 =>
    exfalso
    rw [List.getElem?_eq_none (by simp only [List.length_cons, List.length_nil]; omega)] at h1
    cases h1
theorem m_fp_ok {me idx ci j : Nat} (h : m_fp me idx = some (ci, j)) : ∃ C T N ty, m_ff ci C T N ty ∧ j < N ∧ m_lkw (m_on me) idx T j ∧ m_fnw me idx T j := by
  unfold m_fp at h
  split at h
  · rename_i c j' hl
    split at h
    · cases h
    · rename_i hc
      cases h
      have hm := m_look hl
      have ho := m_fl_oc (l := m_fps) rfl _ hm
      obtain ⟨C, T, N, ty, h1, h2, h3⟩ := m_fps_all _ _ hm
      have hz := m_fz_ok h1 h2
      rw [← ho] at h3
      refine ⟨C, T, N, ty, h1, h2, Or.inl h3, ?_⟩
      by_cases hf : m_fz ci j = true
      · have hkd : m_kd me = 2 ∧ ci = m_oc me := Classical.byContradiction fun q => hc ⟨hf, q⟩
        exact Or.inr ⟨by rw [← hz.1]; exact hf, m_kd2 hkd.1, by rw [hz.2, hkd.2, ho], h3⟩
      · exact Or.inl (by rw [← hz.1]; simpa using hf)
  · cases h
end
section
set_option maxRecDepth 100000 in
theorem m_fy1 : m_fy 1 := ⟨m_w 68 rfl rfl, m_w 47 (by decide +kernel) (by decide +kernel), ⟨by decide +kernel, by decide +kernel, by decide +kernel⟩, by decide, fun h => absurd h (by decide), fun _ => m_w 67 (by decide +kernel) (by decide +kernel), fun h => absurd h (by decide), fun _ => ⟨rfl, rfl⟩⟩
set_option maxRecDepth 100000 in
theorem m_fy2 : m_fy 2 := ⟨m_w 60 rfl rfl, m_w 46 (by decide +kernel) (by decide +kernel), ⟨by decide +kernel, by decide +kernel, by decide +kernel⟩, by decide, fun h => absurd h (by decide), fun _ => m_w 59 (by decide +kernel) (by decide +kernel), fun h => absurd h (by decide), fun _ => ⟨rfl, rfl⟩⟩
set_option maxRecDepth 100000 in
theorem m_fy3 : m_fy 3 := ⟨m_w 104 rfl rfl, m_w 51 (by decide +kernel) (by decide +kernel), ⟨by decide +kernel, by decide +kernel, by decide +kernel⟩, by decide, fun h => absurd h (by decide), fun _ => m_w 103 (by decide +kernel) (by decide +kernel), fun h => absurd h (by decide), fun _ => ⟨rfl, rfl⟩⟩
set_option maxRecDepth 100000 in
theorem m_fy4 : m_fy 4 := ⟨m_w 139 rfl rfl, m_w 52 (by decide +kernel) (by decide +kernel), ⟨by decide +kernel, by decide +kernel, by decide +kernel⟩, by decide, fun h => absurd h (by decide), fun _ => m_w 138 (by decide +kernel) (by decide +kernel), fun h => absurd h (by decide), fun _ => ⟨rfl, rfl⟩⟩
set_option maxRecDepth 100000 in
theorem m_fy5 : m_fy 5 := ⟨m_w 145 rfl rfl, m_w 53 (by decide +kernel) (by decide +kernel), ⟨by decide +kernel, by decide +kernel, by decide +kernel⟩, by decide, fun h => absurd h (by decide), fun _ => m_w 144 (by decide +kernel) (by decide +kernel), fun h => absurd h (by decide), fun _ => ⟨rfl, rfl⟩⟩
set_option maxRecDepth 100000 in
theorem m_fy6 : m_fy 6 := ⟨m_w 216 rfl rfl, m_w 54 (by decide +kernel) (by decide +kernel), ⟨by decide +kernel, by decide +kernel, by decide +kernel⟩, by decide, fun h => absurd h (by decide), fun _ => m_w 215 (by decide +kernel) (by decide +kernel), fun h => absurd h (by decide), fun _ => ⟨rfl, rfl⟩⟩
set_option maxRecDepth 100000 in
theorem m_fy7 : m_fy 7 := ⟨m_w 259 rfl rfl, m_w 46 (by decide +kernel) (by decide +kernel), ⟨by decide +kernel, by decide +kernel, by decide +kernel⟩, by decide, fun h => absurd h (by decide), fun _ => m_w 257 (by decide +kernel) (by decide +kernel), fun _ => ⟨m_w 258 (by decide +kernel) (by decide +kernel), _, _, rfl⟩, fun h => absurd h (by decide)⟩
set_option maxRecDepth 100000 in
theorem m_fy8 : m_fy 8 := ⟨m_w 263 rfl rfl, m_w 47 (by decide +kernel) (by decide +kernel), ⟨by decide +kernel, by decide +kernel, by decide +kernel⟩, by decide, fun h => absurd h (by decide), fun _ => m_w 261 (by decide +kernel) (by decide +kernel), fun _ => ⟨m_w 262 (by decide +kernel) (by decide +kernel), _, _, rfl⟩, fun h => absurd h (by decide)⟩
set_option maxRecDepth 100000 in
theorem m_fy9 : m_fy 9 := ⟨m_w 267 rfl rfl, m_w 47 (by decide +kernel) (by decide +kernel), ⟨by decide +kernel, by decide +kernel, by decide +kernel⟩, by decide, fun h => absurd h (by decide), fun _ => m_w 265 (by decide +kernel) (by decide +kernel), fun _ => ⟨m_w 266 (by decide +kernel) (by decide +kernel), _, _, rfl⟩, fun h => absurd h (by decide)⟩
set_option maxRecDepth 100000 in
theorem m_fy10 : m_fy 10 := ⟨m_w 271 rfl rfl, m_w 46 (by decide +kernel) (by decide +kernel), ⟨by decide +kernel, by decide +kernel, by decide +kernel⟩, by decide, fun h => absurd h (by decide), fun _ => m_w 269 (by decide +kernel) (by decide +kernel), fun _ => ⟨m_w 270 (by decide +kernel) (by decide +kernel), _, _, rfl⟩, fun h => absurd h (by decide)⟩
set_option maxRecDepth 100000 in
theorem m_fy11 : m_fy 11 := ⟨m_w 275 rfl rfl, m_w 46 (by decide +kernel) (by decide +kernel), ⟨by decide +kernel, by decide +kernel, by decide +kernel⟩, by decide, fun h => absurd h (by decide), fun _ => m_w 273 (by decide +kernel) (by decide +kernel), fun _ => ⟨m_w 274 (by decide +kernel) (by decide +kernel), _, _, rfl⟩, fun h => absurd h (by decide)⟩
set_option maxRecDepth 100000 in
theorem m_fy12 : m_fy 12 := ⟨m_w 279 rfl rfl, m_w 46 (by decide +kernel) (by decide +kernel), ⟨by decide +kernel, by decide +kernel, by decide +kernel⟩, by decide, fun h => absurd h (by decide), fun _ => m_w 278 (by decide +kernel) (by decide +kernel), fun _ => ⟨m_w 0 (by decide +kernel) (by decide +kernel), _, _, rfl⟩, fun h => absurd h (by decide)⟩
set_option maxRecDepth 100000 in
theorem m_fy13 : m_fy 13 := ⟨m_w 283 rfl rfl, m_w 51 (by decide +kernel) (by decide +kernel), ⟨by decide +kernel, by decide +kernel, by decide +kernel⟩, by decide, fun h => absurd h (by decide), fun _ => m_w 281 (by decide +kernel) (by decide +kernel), fun _ => ⟨m_w 282 (by decide +kernel) (by decide +kernel), _, _, rfl⟩, fun h => absurd h (by decide)⟩
set_option maxRecDepth 100000 in
theorem m_fy14 : m_fy 14 := ⟨m_w 287 rfl rfl, m_w 46 (by decide +kernel) (by decide +kernel), ⟨by decide +kernel, by decide +kernel, by decide +kernel⟩, by decide, fun h => absurd h (by decide), fun _ => m_w 285 (by decide +kernel) (by decide +kernel), fun _ => ⟨m_w 286 (by decide +kernel) (by decide +kernel), _, _, rfl⟩, fun h => absurd h (by decide)⟩
set_option maxRecDepth 100000 in
theorem m_fy15 : m_fy 15 := ⟨m_w 291 rfl rfl, m_w 46 (by decide +kernel) (by decide +kernel), ⟨by decide +kernel, by decide +kernel, by decide +kernel⟩, by decide, fun h => absurd h (by decide), fun _ => m_w 290 (by decide +kernel) (by decide +kernel), fun _ => ⟨m_w 1 (by decide +kernel) (by decide +kernel), _, _, rfl⟩, fun h => absurd h (by decide)⟩
set_option maxRecDepth 100000 in
theorem m_fy16 : m_fy 16 := ⟨m_w 294 rfl rfl, m_w 46 (by decide +kernel) (by decide +kernel), ⟨by decide +kernel, by decide +kernel, by decide +kernel⟩, by decide, fun _ => m_w 293 (by decide +kernel) (by decide +kernel), fun h => absurd rfl h, fun h => absurd h (by decide), fun h => absurd h (by decide)⟩
set_option maxRecDepth 100000 in
theorem m_fy17 : m_fy 17 := ⟨m_w 298 rfl rfl, m_w 51 (by decide +kernel) (by decide +kernel), ⟨by decide +kernel, by decide +kernel, by decide +kernel⟩, by decide, fun h => absurd h (by decide), fun _ => m_w 296 (by decide +kernel) (by decide +kernel), fun _ => ⟨m_w 297 (by decide +kernel) (by decide +kernel), _, _, rfl⟩, fun h => absurd h (by decide)⟩
set_option maxRecDepth 100000 in
theorem m_fy18 : m_fy 18 := ⟨m_w 302 rfl rfl, m_w 46 (by decide +kernel) (by decide +kernel), ⟨by decide +kernel, by decide +kernel, by decide +kernel⟩, by decide, fun h => absurd h (by decide), fun _ => m_w 300 (by decide +kernel) (by decide +kernel), fun _ => ⟨m_w 301 (by decide +kernel) (by decide +kernel), _, _, rfl⟩, fun h => absurd h (by decide)⟩
set_option maxRecDepth 100000 in
theorem m_fy19 : m_fy 19 := ⟨m_w 306 rfl rfl, m_w 54 (by decide +kernel) (by decide +kernel), ⟨by decide +kernel, by decide +kernel, by decide +kernel⟩, by decide, fun h => absurd h (by decide), fun _ => m_w 304 (by decide +kernel) (by decide +kernel), fun _ => ⟨m_w 305 (by decide +kernel) (by decide +kernel), _, _, rfl⟩, fun h => absurd h (by decide)⟩
set_option maxRecDepth 100000 in
theorem m_fy20 : m_fy 20 := ⟨m_w 310 rfl rfl, m_w 46 (by decide +kernel) (by decide +kernel), ⟨by decide +kernel, by decide +kernel, by decide +kernel⟩, by decide, fun h => absurd h (by decide), fun _ => m_w 309 (by decide +kernel) (by decide +kernel), fun _ => ⟨m_w 2 (by decide +kernel) (by decide +kernel), _, _, rfl⟩, fun h => absurd h (by decide)⟩
set_option maxRecDepth 100000 in
theorem m_fy21 : m_fy 21 := ⟨m_w 314 rfl rfl, m_w 46 (by decide +kernel) (by decide +kernel), ⟨by decide +kernel, by decide +kernel, by decide +kernel⟩, by decide, fun h => absurd h (by decide), fun _ => m_w 313 (by decide +kernel) (by decide +kernel), fun _ => ⟨m_w 3 (by decide +kernel) (by decide +kernel), _, _, rfl⟩, fun h => absurd h (by decide)⟩
set_option maxRecDepth 100000 in
theorem m_fy22 : m_fy 22 := ⟨m_w 318 rfl rfl, m_w 52 (by decide +kernel) (by decide +kernel), ⟨by decide +kernel, by decide +kernel, by decide +kernel⟩, by decide, fun h => absurd h (by decide), fun _ => m_w 316 (by decide +kernel) (by decide +kernel), fun _ => ⟨m_w 317 (by decide +kernel) (by decide +kernel), _, _, rfl⟩, fun h => absurd h (by decide)⟩
set_option maxRecDepth 100000 in
theorem m_fy23 : m_fy 23 := ⟨m_w 322 rfl rfl, m_w 46 (by decide +kernel) (by decide +kernel), ⟨by decide +kernel, by decide +kernel, by decide +kernel⟩, by decide, fun h => absurd h (by decide), fun _ => m_w 321 (by decide +kernel) (by decide +kernel), fun _ => ⟨m_w 4 (by decide +kernel) (by decide +kernel), _, _, rfl⟩, fun h => absurd h (by decide)⟩
set_option maxRecDepth 100000 in
theorem m_fy24 : m_fy 24 := ⟨m_w 326 rfl rfl, m_w 46 (by decide +kernel) (by decide +kernel), ⟨by decide +kernel, by decide +kernel, by decide +kernel⟩, by decide, fun h => absurd h (by decide), fun _ => m_w 325 (by decide +kernel) (by decide +kernel), fun _ => ⟨m_w 5 (by decide +kernel) (by decide +kernel), _, _, rfl⟩, fun h => absurd h (by decide)⟩
set_option maxRecDepth 100000 in
theorem m_fy25 : m_fy 25 := ⟨m_w 330 rfl rfl, m_w 53 (by decide +kernel) (by decide +kernel), ⟨by decide +kernel, by decide +kernel, by decide +kernel⟩, by decide, fun h => absurd h (by decide), fun _ => m_w 328 (by decide +kernel) (by decide +kernel), fun _ => ⟨m_w 329 (by decide +kernel) (by decide +kernel), _, _, rfl⟩, fun h => absurd h (by decide)⟩
set_option maxRecDepth 100000 in
theorem m_fy26 : m_fy 26 := ⟨m_w 334 rfl rfl, m_w 46 (by decide +kernel) (by decide +kernel), ⟨by decide +kernel, by decide +kernel, by decide +kernel⟩, by decide, fun h => absurd h (by decide), fun _ => m_w 333 (by decide +kernel) (by decide +kernel), fun _ => ⟨m_w 6 (by decide +kernel) (by decide +kernel), _, _, rfl⟩, fun h => absurd h (by decide)⟩
set_option maxRecDepth 100000 in
theorem m_fy27 : m_fy 27 := ⟨m_w 338 rfl rfl, m_w 52 (by decide +kernel) (by decide +kernel), ⟨by decide +kernel, by decide +kernel, by decide +kernel⟩, by decide, fun h => absurd h (by decide), fun _ => m_w 336 (by decide +kernel) (by decide +kernel), fun _ => ⟨m_w 337 (by decide +kernel) (by decide +kernel), _, _, rfl⟩, fun h => absurd h (by decide)⟩
set_option maxRecDepth 100000 in
theorem m_fy28 : m_fy 28 := ⟨m_w 342 rfl rfl, m_w 46 (by decide +kernel) (by decide +kernel), ⟨by decide +kernel, by decide +kernel, by decide +kernel⟩, by decide, fun h => absurd h (by decide), fun _ => m_w 341 (by decide +kernel) (by decide +kernel), fun _ => ⟨m_w 7 (by decide +kernel) (by decide +kernel), _, _, rfl⟩, fun h => absurd h (by decide)⟩
set_option maxRecDepth 100000 in
theorem m_fy29 : m_fy 29 := ⟨m_w 346 rfl rfl, m_w 46 (by decide +kernel) (by decide +kernel), ⟨by decide +kernel, by decide +kernel, by decide +kernel⟩, by decide, fun h => absurd h (by decide), fun _ => m_w 345 (by decide +kernel) (by decide +kernel), fun _ => ⟨m_w 8 (by decide +kernel) (by decide +kernel), _, _, rfl⟩, fun h => absurd h (by decide)⟩
set_option maxRecDepth 100000 in
theorem m_fy30 : m_fy 30 := ⟨m_w 350 rfl rfl, m_w 46 (by decide +kernel) (by decide +kernel), ⟨by decide +kernel, by decide +kernel, by decide +kernel⟩, by decide, fun h => absurd h (by decide), fun _ => m_w 349 (by decide +kernel) (by decide +kernel), fun _ => ⟨m_w 9 (by decide +kernel) (by decide +kernel), _, _, rfl⟩, fun h => absurd h (by decide)⟩
set_option maxRecDepth 100000 in
theorem m_fy31 : m_fy 31 := ⟨m_w 354 rfl rfl, m_w 46 (by decide +kernel) (by decide +kernel), ⟨by decide +kernel, by decide +kernel, by decide +kernel⟩, by decide, fun h => absurd h (by decide), fun _ => m_w 353 (by decide +kernel) (by decide +kernel), fun _ => ⟨m_w 10 (by decide +kernel) (by decide +kernel), _, _, rfl⟩, fun h => absurd h (by decide)⟩
set_option maxRecDepth 100000 in
theorem m_fy32 : m_fy 32 := ⟨m_w 358 rfl rfl, m_w 53 (by decide +kernel) (by decide +kernel), ⟨by decide +kernel, by decide +kernel, by decide +kernel⟩, by decide, fun h => absurd h (by decide), fun _ => m_w 356 (by decide +kernel) (by decide +kernel), fun _ => ⟨m_w 357 (by decide +kernel) (by decide +kernel), _, _, rfl⟩, fun h => absurd h (by decide)⟩
set_option maxRecDepth 100000 in
theorem m_fy33 : m_fy 33 := ⟨m_w 362 rfl rfl, m_w 54 (by decide +kernel) (by decide +kernel), ⟨by decide +kernel, by decide +kernel, by decide +kernel⟩, by decide, fun h => absurd h (by decide), fun _ => m_w 360 (by decide +kernel) (by decide +kernel), fun _ => ⟨m_w 361 (by decide +kernel) (by decide +kernel), _, _, rfl⟩, fun h => absurd h (by decide)⟩
set_option maxRecDepth 100000 in
theorem m_fy34 : m_fy 34 := ⟨m_w 366 rfl rfl, m_w 46 (by decide +kernel) (by decide +kernel), ⟨by decide +kernel, by decide +kernel, by decide +kernel⟩, by decide, fun h => absurd h (by decide), fun _ => m_w 365 (by decide +kernel) (by decide +kernel), fun _ => ⟨m_w 11 (by decide +kernel) (by decide +kernel), _, _, rfl⟩, fun h => absurd h (by decide)⟩
set_option maxRecDepth 100000 in
theorem m_fy35 : m_fy 35 := ⟨m_w 370 rfl rfl, m_w 46 (by decide +kernel) (by decide +kernel), ⟨by decide +kernel, by decide +kernel, by decide +kernel⟩, by decide, fun h => absurd h (by decide), fun _ => m_w 369 (by decide +kernel) (by decide +kernel), fun _ => ⟨m_w 12 (by decide +kernel) (by decide +kernel), _, _, rfl⟩, fun h => absurd h (by decide)⟩
set_option maxRecDepth 100000 in
theorem m_fy36 : m_fy 36 := ⟨m_w 374 rfl rfl, m_w 53 (by decide +kernel) (by decide +kernel), ⟨by decide +kernel, by decide +kernel, by decide +kernel⟩, by decide, fun h => absurd h (by decide), fun _ => m_w 372 (by decide +kernel) (by decide +kernel), fun _ => ⟨m_w 373 (by decide +kernel) (by decide +kernel), _, _, rfl⟩, fun h => absurd h (by decide)⟩
set_option maxRecDepth 100000 in
theorem m_fy37 : m_fy 37 := ⟨m_w 378 rfl rfl, m_w 46 (by decide +kernel) (by decide +kernel), ⟨by decide +kernel, by decide +kernel, by decide +kernel⟩, by decide, fun h => absurd h (by decide), fun _ => m_w 377 (by decide +kernel) (by decide +kernel), fun _ => ⟨m_w 13 (by decide +kernel) (by decide +kernel), _, _, rfl⟩, fun h => absurd h (by decide)⟩
set_option maxRecDepth 100000 in
theorem m_fy38 : m_fy 38 := ⟨m_w 382 rfl rfl, m_w 46 (by decide +kernel) (by decide +kernel), ⟨by decide +kernel, by decide +kernel, by decide +kernel⟩, by decide, fun h => absurd h (by decide), fun _ => m_w 381 (by decide +kernel) (by decide +kernel), fun _ => ⟨m_w 14 (by decide +kernel) (by decide +kernel), _, _, rfl⟩, fun h => absurd h (by decide)⟩
set_option maxRecDepth 100000 in
theorem m_fy39 : m_fy 39 := ⟨m_w 386 rfl rfl, m_w 47 (by decide +kernel) (by decide +kernel), ⟨by decide +kernel, by decide +kernel, by decide +kernel⟩, by decide, fun h => absurd h (by decide), fun _ => m_w 384 (by decide +kernel) (by decide +kernel), fun _ => ⟨m_w 385 (by decide +kernel) (by decide +kernel), _, _, rfl⟩, fun h => absurd h (by decide)⟩
set_option maxRecDepth 100000 in
theorem m_fy40 : m_fy 40 := ⟨m_w 390 rfl rfl, m_w 47 (by decide +kernel) (by decide +kernel), ⟨by decide +kernel, by decide +kernel, by decide +kernel⟩, by decide, fun h => absurd h (by decide), fun _ => m_w 388 (by decide +kernel) (by decide +kernel), fun _ => ⟨m_w 389 (by decide +kernel) (by decide +kernel), _, _, rfl⟩, fun h => absurd h (by decide)⟩
set_option maxRecDepth 100000 in
theorem m_fy41 : m_fy 41 := ⟨m_w 395 rfl rfl, m_w 53 (by decide +kernel) (by decide +kernel), ⟨by decide +kernel, by decide +kernel, by decide +kernel⟩, by decide, fun h => absurd h (by decide), fun _ => m_w 393 (by decide +kernel) (by decide +kernel), fun _ => ⟨m_w 394 (by decide +kernel) (by decide +kernel), _, _, rfl⟩, fun h => absurd h (by decide)⟩
set_option maxRecDepth 100000 in
theorem m_fy42 : m_fy 42 := ⟨m_w 399 rfl rfl, m_w 46 (by decide +kernel) (by decide +kernel), ⟨by decide +kernel, by decide +kernel, by decide +kernel⟩, by decide, fun h => absurd h (by decide), fun _ => m_w 398 (by decide +kernel) (by decide +kernel), fun _ => ⟨m_w 15 (by decide +kernel) (by decide +kernel), _, _, rfl⟩, fun h => absurd h (by decide)⟩
set_option maxRecDepth 100000 in
theorem m_fy43 : m_fy 43 := ⟨m_w 403 rfl rfl, m_w 51 (by decide +kernel) (by decide +kernel), ⟨by decide +kernel, by decide +kernel, by decide +kernel⟩, by decide, fun h => absurd h (by decide), fun _ => m_w 401 (by decide +kernel) (by decide +kernel), fun _ => ⟨m_w 402 (by decide +kernel) (by decide +kernel), _, _, rfl⟩, fun h => absurd h (by decide)⟩
set_option maxRecDepth 100000 in
theorem m_fy44 : m_fy 44 := ⟨m_w 409 rfl rfl, m_w 46 (by decide +kernel) (by decide +kernel), ⟨by decide +kernel, by decide +kernel, by decide +kernel⟩, by decide, fun h => absurd h (by decide), fun _ => m_w 408 (by decide +kernel) (by decide +kernel), fun _ => ⟨m_w 16 (by decide +kernel) (by decide +kernel), _, _, rfl⟩, fun h => absurd h (by decide)⟩
set_option maxRecDepth 100000 in
theorem m_fy45 : m_fy 45 := ⟨m_w 413 rfl rfl, m_w 52 (by decide +kernel) (by decide +kernel), ⟨by decide +kernel, by decide +kernel, by decide +kernel⟩, by decide, fun h => absurd h (by decide), fun _ => m_w 411 (by decide +kernel) (by decide +kernel), fun _ => ⟨m_w 412 (by decide +kernel) (by decide +kernel), _, _, rfl⟩, fun h => absurd h (by decide)⟩
set_option maxRecDepth 100000 in
theorem m_fy46 : m_fy 46 := ⟨m_w 417 rfl rfl, m_w 46 (by decide +kernel) (by decide +kernel), ⟨by decide +kernel, by decide +kernel, by decide +kernel⟩, by decide, fun h => absurd h (by decide), fun _ => m_w 416 (by decide +kernel) (by decide +kernel), fun _ => ⟨m_w 17 (by decide +kernel) (by decide +kernel), _, _, rfl⟩, fun h => absurd h (by decide)⟩
set_option maxRecDepth 100000 in
theorem m_fy47 : m_fy 47 := ⟨m_w 421 rfl rfl, m_w 46 (by decide +kernel) (by decide +kernel), ⟨by decide +kernel, by decide +kernel, by decide +kernel⟩, by decide, fun h => absurd h (by decide), fun _ => m_w 420 (by decide +kernel) (by decide +kernel), fun _ => ⟨m_w 18 (by decide +kernel) (by decide +kernel), _, _, rfl⟩, fun h => absurd h (by decide)⟩
set_option maxRecDepth 100000 in
theorem m_fy48 : m_fy 48 := ⟨m_w 425 rfl rfl, m_w 46 (by decide +kernel) (by decide +kernel), ⟨by decide +kernel, by decide +kernel, by decide +kernel⟩, by decide, fun h => absurd h (by decide), fun _ => m_w 424 (by decide +kernel) (by decide +kernel), fun _ => ⟨m_w 19 (by decide +kernel) (by decide +kernel), _, _, rfl⟩, fun h => absurd h (by decide)⟩
set_option maxRecDepth 100000 in
theorem m_fy49 : m_fy 49 := ⟨m_w 429 rfl rfl, m_w 46 (by decide +kernel) (by decide +kernel), ⟨by decide +kernel, by decide +kernel, by decide +kernel⟩, by decide, fun h => absurd h (by decide), fun _ => m_w 428 (by decide +kernel) (by decide +kernel), fun _ => ⟨m_w 20 (by decide +kernel) (by decide +kernel), _, _, rfl⟩, fun h => absurd h (by decide)⟩
set_option maxRecDepth 100000 in
theorem m_fy50 : m_fy 50 := ⟨m_w 433 rfl rfl, m_w 46 (by decide +kernel) (by decide +kernel), ⟨by decide +kernel, by decide +kernel, by decide +kernel⟩, by decide, fun h => absurd h (by decide), fun _ => m_w 432 (by decide +kernel) (by decide +kernel), fun _ => ⟨m_w 21 (by decide +kernel) (by decide +kernel), _, _, rfl⟩, fun h => absurd h (by decide)⟩
set_option maxRecDepth 100000 in
theorem m_fy51 : m_fy 51 := ⟨m_w 437 rfl rfl, m_w 46 (by decide +kernel) (by decide +kernel), ⟨by decide +kernel, by decide +kernel, by decide +kernel⟩, by decide, fun h => absurd h (by decide), fun _ => m_w 435 (by decide +kernel) (by decide +kernel), fun _ => ⟨m_w 436 (by decide +kernel) (by decide +kernel), _, _, rfl⟩, fun h => absurd h (by decide)⟩
set_option maxRecDepth 100000 in
theorem m_fy52 : m_fy 52 := ⟨m_w 441 rfl rfl, m_w 46 (by decide +kernel) (by decide +kernel), ⟨by decide +kernel, by decide +kernel, by decide +kernel⟩, by decide, fun h => absurd h (by decide), fun _ => m_w 439 (by decide +kernel) (by decide +kernel), fun _ => ⟨m_w 440 (by decide +kernel) (by decide +kernel), _, _, rfl⟩, fun h => absurd h (by decide)⟩
set_option maxRecDepth 100000 in
theorem m_fy53 : m_fy 53 := ⟨m_w 445 rfl rfl, m_w 46 (by decide +kernel) (by decide +kernel), ⟨by decide +kernel, by decide +kernel, by decide +kernel⟩, by decide, fun h => absurd h (by decide), fun _ => m_w 443 (by decide +kernel) (by decide +kernel), fun _ => ⟨m_w 444 (by decide +kernel) (by decide +kernel), _, _, rfl⟩, fun h => absurd h (by decide)⟩
set_option maxRecDepth 100000 in
theorem m_fy54 : m_fy 54 := ⟨m_w 449 rfl rfl, m_w 46 (by decide +kernel) (by decide +kernel), ⟨by decide +kernel, by decide +kernel, by decide +kernel⟩, by decide, fun h => absurd h (by decide), fun _ => m_w 447 (by decide +kernel) (by decide +kernel), fun _ => ⟨m_w 448 (by decide +kernel) (by decide +kernel), _, _, rfl⟩, fun h => absurd h (by decide)⟩
set_option maxRecDepth 100000 in
theorem m_fy55 : m_fy 55 := ⟨m_w 453 rfl rfl, m_w 46 (by decide +kernel) (by decide +kernel), ⟨by decide +kernel, by decide +kernel, by decide +kernel⟩, by decide, fun h => absurd h (by decide), fun _ => m_w 451 (by decide +kernel) (by decide +kernel), fun _ => ⟨m_w 452 (by decide +kernel) (by decide +kernel), _, _, rfl⟩, fun h => absurd h (by decide)⟩
set_option maxRecDepth 100000 in
theorem m_fy56 : m_fy 56 := ⟨m_w 457 rfl rfl, m_w 46 (by decide +kernel) (by decide +kernel), ⟨by decide +kernel, by decide +kernel, by decide +kernel⟩, by decide, fun h => absurd h (by decide), fun _ => m_w 455 (by decide +kernel) (by decide +kernel), fun _ => ⟨m_w 456 (by decide +kernel) (by decide +kernel), _, _, rfl⟩, fun h => absurd h (by decide)⟩
set_option maxRecDepth 100000 in
theorem m_fy57 : m_fy 57 := ⟨m_w 461 rfl rfl, m_w 54 (by decide +kernel) (by decide +kernel), ⟨by decide +kernel, by decide +kernel, by decide +kernel⟩, by decide, fun h => absurd h (by decide), fun _ => m_w 459 (by decide +kernel) (by decide +kernel), fun _ => ⟨m_w 460 (by decide +kernel) (by decide +kernel), _, _, rfl⟩, fun h => absurd h (by decide)⟩
set_option maxRecDepth 100000 in
theorem m_fy58 : m_fy 58 := ⟨m_w 465 rfl rfl, m_w 46 (by decide +kernel) (by decide +kernel), ⟨by decide +kernel, by decide +kernel, by decide +kernel⟩, by decide, fun h => absurd h (by decide), fun _ => m_w 463 (by decide +kernel) (by decide +kernel), fun _ => ⟨m_w 464 (by decide +kernel) (by decide +kernel), _, _, rfl⟩, fun h => absurd h (by decide)⟩
set_option maxRecDepth 100000 in
theorem m_fy59 : m_fy 59 := ⟨m_w 469 rfl rfl, m_w 46 (by decide +kernel) (by decide +kernel), ⟨by decide +kernel, by decide +kernel, by decide +kernel⟩, by decide, fun h => absurd h (by decide), fun _ => m_w 467 (by decide +kernel) (by decide +kernel), fun _ => ⟨m_w 468 (by decide +kernel) (by decide +kernel), _, _, rfl⟩, fun h => absurd h (by decide)⟩
set_option maxRecDepth 100000 in
theorem m_fy60 : m_fy 60 := ⟨m_w 473 rfl rfl, m_w 46 (by decide +kernel) (by decide +kernel), ⟨by decide +kernel, by decide +kernel, by decide +kernel⟩, by decide, fun h => absurd h (by decide), fun _ => m_w 471 (by decide +kernel) (by decide +kernel), fun _ => ⟨m_w 472 (by decide +kernel) (by decide +kernel), _, _, rfl⟩, fun h => absurd h (by decide)⟩
set_option maxRecDepth 100000 in
theorem m_fy61 : m_fy 61 := ⟨m_w 477 rfl rfl, m_w 46 (by decide +kernel) (by decide +kernel), ⟨by decide +kernel, by decide +kernel, by decide +kernel⟩, by decide, fun h => absurd h (by decide), fun _ => m_w 475 (by decide +kernel) (by decide +kernel), fun _ => ⟨m_w 476 (by decide +kernel) (by decide +kernel), _, _, rfl⟩, fun h => absurd h (by decide)⟩
set_option maxRecDepth 100000 in
theorem m_fy62 : m_fy 62 := ⟨m_w 482 rfl rfl, m_w 55 (by decide +kernel) (by decide +kernel), ⟨by decide +kernel, by decide +kernel, by decide +kernel⟩, by decide, fun h => absurd h (by decide), fun _ => m_w 481 (by decide +kernel) (by decide +kernel), fun h => absurd h (by decide), fun _ => ⟨rfl, rfl⟩⟩
set_option maxRecDepth 100000 in
theorem m_fy63 : m_fy 63 := ⟨m_w 599 rfl rfl, m_w 55 (by decide +kernel) (by decide +kernel), ⟨by decide +kernel, by decide +kernel, by decide +kernel⟩, by decide, fun h => absurd h (by decide), fun _ => m_w 597 (by decide +kernel) (by decide +kernel), fun _ => ⟨m_w 598 (by decide +kernel) (by decide +kernel), _, _, rfl⟩, fun h => absurd h (by decide)⟩
set_option maxRecDepth 100000 in
theorem m_fy64 : m_fy 64 := ⟨m_w 603 rfl rfl, m_w 55 (by decide +kernel) (by decide +kernel), ⟨by decide +kernel, by decide +kernel, by decide +kernel⟩, by decide, fun h => absurd h (by decide), fun _ => m_w 602 (by decide +kernel) (by decide +kernel), fun _ => ⟨m_w 22 (by decide +kernel) (by decide +kernel), _, _, rfl⟩, fun h => absurd h (by decide)⟩
set_option maxRecDepth 100000 in
theorem m_fy65 : m_fy 65 := ⟨m_w 607 rfl rfl, m_w 55 (by decide +kernel) (by decide +kernel), ⟨by decide +kernel, by decide +kernel, by decide +kernel⟩, by decide, fun h => absurd h (by decide), fun _ => m_w 605 (by decide +kernel) (by decide +kernel), fun _ => ⟨m_w 606 (by decide +kernel) (by decide +kernel), _, _, rfl⟩, fun h => absurd h (by decide)⟩
set_option maxRecDepth 100000 in
theorem m_fy66 : m_fy 66 := ⟨m_w 611 rfl rfl, m_w 55 (by decide +kernel) (by decide +kernel), ⟨by decide +kernel, by decide +kernel, by decide +kernel⟩, by decide, fun h => absurd h (by decide), fun _ => m_w 609 (by decide +kernel) (by decide +kernel), fun _ => ⟨m_w 610 (by decide +kernel) (by decide +kernel), _, _, rfl⟩, fun h => absurd h (by decide)⟩
set_option maxRecDepth 100000 in
theorem m_fy67 : m_fy 67 := ⟨m_w 615 rfl rfl, m_w 55 (by decide +kernel) (by decide +kernel), ⟨by decide +kernel, by decide +kernel, by decide +kernel⟩, by decide, fun h => absurd h (by decide), fun _ => m_w 614 (by decide +kernel) (by decide +kernel), fun _ => ⟨m_w 23 (by decide +kernel) (by decide +kernel), _, _, rfl⟩, fun h => absurd h (by decide)⟩
set_option maxRecDepth 100000 in
theorem m_fy68 : m_fy 68 := ⟨m_w 619 rfl rfl, m_w 55 (by decide +kernel) (by decide +kernel), ⟨by decide +kernel, by decide +kernel, by decide +kernel⟩, by decide, fun h => absurd h (by decide), fun _ => m_w 617 (by decide +kernel) (by decide +kernel), fun _ => ⟨m_w 618 (by decide +kernel) (by decide +kernel), _, _, rfl⟩, fun h => absurd h (by decide)⟩
set_option maxRecDepth 100000 in
theorem m_fy69 : m_fy 69 := ⟨m_w 623 rfl rfl, m_w 55 (by decide +kernel) (by decide +kernel), ⟨by decide +kernel, by decide +kernel, by decide +kernel⟩, by decide, fun h => absurd h (by decide), fun _ => m_w 622 (by decide +kernel) (by decide +kernel), fun _ => ⟨m_w 24 (by decide +kernel) (by decide +kernel), _, _, rfl⟩, fun h => absurd h (by decide)⟩
set_option maxRecDepth 100000 in
theorem m_fy70 : m_fy 70 := ⟨m_w 627 rfl rfl, m_w 55 (by decide +kernel) (by decide +kernel), ⟨by decide +kernel, by decide +kernel, by decide +kernel⟩, by decide, fun h => absurd h (by decide), fun _ => m_w 625 (by decide +kernel) (by decide +kernel), fun _ => ⟨m_w 626 (by decide +kernel) (by decide +kernel), _, _, rfl⟩, fun h => absurd h (by decide)⟩
set_option maxRecDepth 100000 in
theorem m_fy71 : m_fy 71 := ⟨m_w 631 rfl rfl, m_w 55 (by decide +kernel) (by decide +kernel), ⟨by decide +kernel, by decide +kernel, by decide +kernel⟩, by decide, fun h => absurd h (by decide), fun _ => m_w 630 (by decide +kernel) (by decide +kernel), fun _ => ⟨m_w 25 (by decide +kernel) (by decide +kernel), _, _, rfl⟩, fun h => absurd h (by decide)⟩
set_option maxRecDepth 100000 in
theorem m_fy72 : m_fy 72 := ⟨m_w 635 rfl rfl, m_w 55 (by decide +kernel) (by decide +kernel), ⟨by decide +kernel, by decide +kernel, by decide +kernel⟩, by decide, fun h => absurd h (by decide), fun _ => m_w 633 (by decide +kernel) (by decide +kernel), fun _ => ⟨m_w 634 (by decide +kernel) (by decide +kernel), _, _, rfl⟩, fun h => absurd h (by decide)⟩
set_option maxRecDepth 100000 in
theorem m_fy73 : m_fy 73 := ⟨m_w 639 rfl rfl, m_w 55 (by decide +kernel) (by decide +kernel), ⟨by decide +kernel, by decide +kernel, by decide +kernel⟩, by decide, fun h => absurd h (by decide), fun _ => m_w 638 (by decide +kernel) (by decide +kernel), fun _ => ⟨m_w 26 (by decide +kernel) (by decide +kernel), _, _, rfl⟩, fun h => absurd h (by decide)⟩
set_option maxRecDepth 100000 in
theorem m_fy74 : m_fy 74 := ⟨m_w 643 rfl rfl, m_w 55 (by decide +kernel) (by decide +kernel), ⟨by decide +kernel, by decide +kernel, by decide +kernel⟩, by decide, fun h => absurd h (by decide), fun _ => m_w 641 (by decide +kernel) (by decide +kernel), fun _ => ⟨m_w 642 (by decide +kernel) (by decide +kernel), _, _, rfl⟩, fun h => absurd h (by decide)⟩
set_option maxRecDepth 100000 in
theorem m_fy75 : m_fy 75 := ⟨m_w 647 rfl rfl, m_w 55 (by decide +kernel) (by decide +kernel), ⟨by decide +kernel, by decide +kernel, by decide +kernel⟩, by decide, fun h => absurd h (by decide), fun _ => m_w 646 (by decide +kernel) (by decide +kernel), fun _ => ⟨m_w 27 (by decide +kernel) (by decide +kernel), _, _, rfl⟩, fun h => absurd h (by decide)⟩
set_option maxRecDepth 100000 in
theorem m_fy76 : m_fy 76 := ⟨m_w 651 rfl rfl, m_w 55 (by decide +kernel) (by decide +kernel), ⟨by decide +kernel, by decide +kernel, by decide +kernel⟩, by decide, fun h => absurd h (by decide), fun _ => m_w 650 (by decide +kernel) (by decide +kernel), fun _ => ⟨m_w 28 (by decide +kernel) (by decide +kernel), _, _, rfl⟩, fun h => absurd h (by decide)⟩
set_option maxRecDepth 100000 in
theorem m_fy77 : m_fy 77 := ⟨m_w 655 rfl rfl, m_w 55 (by decide +kernel) (by decide +kernel), ⟨by decide +kernel, by decide +kernel, by decide +kernel⟩, by decide, fun h => absurd h (by decide), fun _ => m_w 654 (by decide +kernel) (by decide +kernel), fun _ => ⟨m_w 29 (by decide +kernel) (by decide +kernel), _, _, rfl⟩, fun h => absurd h (by decide)⟩
set_option maxRecDepth 100000 in
theorem m_fy78 : m_fy 78 := ⟨m_w 659 rfl rfl, m_w 55 (by decide +kernel) (by decide +kernel), ⟨by decide +kernel, by decide +kernel, by decide +kernel⟩, by decide, fun h => absurd h (by decide), fun _ => m_w 658 (by decide +kernel) (by decide +kernel), fun _ => ⟨m_w 30 (by decide +kernel) (by decide +kernel), _, _, rfl⟩, fun h => absurd h (by decide)⟩
set_option maxRecDepth 100000 in
theorem m_fy79 : m_fy 79 := ⟨m_w 663 rfl rfl, m_w 55 (by decide +kernel) (by decide +kernel), ⟨by decide +kernel, by decide +kernel, by decide +kernel⟩, by decide, fun h => absurd h (by decide), fun _ => m_w 662 (by decide +kernel) (by decide +kernel), fun _ => ⟨m_w 31 (by decide +kernel) (by decide +kernel), _, _, rfl⟩, fun h => absurd h (by decide)⟩
set_option maxRecDepth 100000 in
theorem m_fy80 : m_fy 80 := ⟨m_w 667 rfl rfl, m_w 55 (by decide +kernel) (by decide +kernel), ⟨by decide +kernel, by decide +kernel, by decide +kernel⟩, by decide, fun h => absurd h (by decide), fun _ => m_w 666 (by decide +kernel) (by decide +kernel), fun _ => ⟨m_w 32 (by decide +kernel) (by decide +kernel), _, _, rfl⟩, fun h => absurd h (by decide)⟩
set_option maxRecDepth 100000 in
theorem m_fy81 : m_fy 81 := ⟨m_w 671 rfl rfl, m_w 55 (by decide +kernel) (by decide +kernel), ⟨by decide +kernel, by decide +kernel, by decide +kernel⟩, by decide, fun h => absurd h (by decide), fun _ => m_w 670 (by decide +kernel) (by decide +kernel), fun _ => ⟨m_w 33 (by decide +kernel) (by decide +kernel), _, _, rfl⟩, fun h => absurd h (by decide)⟩
set_option maxRecDepth 100000 in
theorem m_fy82 : m_fy 82 := ⟨m_w 675 rfl rfl, m_w 55 (by decide +kernel) (by decide +kernel), ⟨by decide +kernel, by decide +kernel, by decide +kernel⟩, by decide, fun h => absurd h (by decide), fun _ => m_w 674 (by decide +kernel) (by decide +kernel), fun _ => ⟨m_w 34 (by decide +kernel) (by decide +kernel), _, _, rfl⟩, fun h => absurd h (by decide)⟩
set_option maxRecDepth 100000 in
theorem m_fy83 : m_fy 83 := ⟨m_w 679 rfl rfl, m_w 55 (by decide +kernel) (by decide +kernel), ⟨by decide +kernel, by decide +kernel, by decide +kernel⟩, by decide, fun h => absurd h (by decide), fun _ => m_w 678 (by decide +kernel) (by decide +kernel), fun _ => ⟨m_w 35 (by decide +kernel) (by decide +kernel), _, _, rfl⟩, fun h => absurd h (by decide)⟩
set_option maxRecDepth 100000 in
theorem m_fy84 : m_fy 84 := ⟨m_w 683 rfl rfl, m_w 55 (by decide +kernel) (by decide +kernel), ⟨by decide +kernel, by decide +kernel, by decide +kernel⟩, by decide, fun h => absurd h (by decide), fun _ => m_w 682 (by decide +kernel) (by decide +kernel), fun _ => ⟨m_w 36 (by decide +kernel) (by decide +kernel), _, _, rfl⟩, fun h => absurd h (by decide)⟩
set_option maxRecDepth 100000 in
theorem m_fy85 : m_fy 85 := ⟨m_w 687 rfl rfl, m_w 55 (by decide +kernel) (by decide +kernel), ⟨by decide +kernel, by decide +kernel, by decide +kernel⟩, by decide, fun h => absurd h (by decide), fun _ => m_w 686 (by decide +kernel) (by decide +kernel), fun _ => ⟨m_w 37 (by decide +kernel) (by decide +kernel), _, _, rfl⟩, fun h => absurd h (by decide)⟩
set_option maxRecDepth 100000 in
theorem m_fy86 : m_fy 86 := ⟨m_w 691 rfl rfl, m_w 55 (by decide +kernel) (by decide +kernel), ⟨by decide +kernel, by decide +kernel, by decide +kernel⟩, by decide, fun h => absurd h (by decide), fun _ => m_w 690 (by decide +kernel) (by decide +kernel), fun _ => ⟨m_w 38 (by decide +kernel) (by decide +kernel), _, _, rfl⟩, fun h => absurd h (by decide)⟩
set_option maxRecDepth 100000 in
theorem m_fy87 : m_fy 87 := ⟨m_w 695 rfl rfl, m_w 55 (by decide +kernel) (by decide +kernel), ⟨by decide +kernel, by decide +kernel, by decide +kernel⟩, by decide, fun h => absurd h (by decide), fun _ => m_w 694 (by decide +kernel) (by decide +kernel), fun _ => ⟨m_w 39 (by decide +kernel) (by decide +kernel), _, _, rfl⟩, fun h => absurd h (by decide)⟩
set_option maxRecDepth 100000 in
theorem m_fy88 : m_fy 88 := ⟨m_w 699 rfl rfl, m_w 55 (by decide +kernel) (by decide +kernel), ⟨by decide +kernel, by decide +kernel, by decide +kernel⟩, by decide, fun h => absurd h (by decide), fun _ => m_w 698 (by decide +kernel) (by decide +kernel), fun _ => ⟨m_w 40 (by decide +kernel) (by decide +kernel), _, _, rfl⟩, fun h => absurd h (by decide)⟩
set_option maxRecDepth 100000 in
theorem m_fy89 : m_fy 89 := ⟨m_w 703 rfl rfl, m_w 55 (by decide +kernel) (by decide +kernel), ⟨by decide +kernel, by decide +kernel, by decide +kernel⟩, by decide, fun h => absurd h (by decide), fun _ => m_w 702 (by decide +kernel) (by decide +kernel), fun _ => ⟨m_w 41 (by decide +kernel) (by decide +kernel), _, _, rfl⟩, fun h => absurd h (by decide)⟩
set_option maxRecDepth 100000 in
theorem m_fy90 : m_fy 90 := ⟨m_w 707 rfl rfl, m_w 55 (by decide +kernel) (by decide +kernel), ⟨by decide +kernel, by decide +kernel, by decide +kernel⟩, by decide, fun h => absurd h (by decide), fun _ => m_w 706 (by decide +kernel) (by decide +kernel), fun _ => ⟨m_w 42 (by decide +kernel) (by decide +kernel), _, _, rfl⟩, fun h => absurd h (by decide)⟩
set_option maxRecDepth 100000 in
theorem m_fy91 : m_fy 91 := ⟨m_w 711 rfl rfl, m_w 55 (by decide +kernel) (by decide +kernel), ⟨by decide +kernel, by decide +kernel, by decide +kernel⟩, by decide, fun h => absurd h (by decide), fun _ => m_w 710 (by decide +kernel) (by decide +kernel), fun _ => ⟨m_w 43 (by decide +kernel) (by decide +kernel), _, _, rfl⟩, fun h => absurd h (by decide)⟩
set_option maxRecDepth 100000 in
theorem m_fy92 : m_fy 92 := ⟨m_w 715 rfl rfl, m_w 55 (by decide +kernel) (by decide +kernel), ⟨by decide +kernel, by decide +kernel, by decide +kernel⟩, by decide, fun h => absurd h (by decide), fun _ => m_w 713 (by decide +kernel) (by decide +kernel), fun _ => ⟨m_w 714 (by decide +kernel) (by decide +kernel), _, _, rfl⟩, fun h => absurd h (by decide)⟩
set_option maxRecDepth 100000 in
theorem m_fy93 : m_fy 93 := ⟨m_w 719 rfl rfl, m_w 55 (by decide +kernel) (by decide +kernel), ⟨by decide +kernel, by decide +kernel, by decide +kernel⟩, by decide, fun h => absurd h (by decide), fun _ => m_w 717 (by decide +kernel) (by decide +kernel), fun _ => ⟨m_w 718 (by decide +kernel) (by decide +kernel), _, _, rfl⟩, fun h => absurd h (by decide)⟩
set_option maxRecDepth 100000 in
theorem m_fy94 : m_fy 94 := ⟨m_w 723 rfl rfl, m_w 55 (by decide +kernel) (by decide +kernel), ⟨by decide +kernel, by decide +kernel, by decide +kernel⟩, by decide, fun h => absurd h (by decide), fun _ => m_w 721 (by decide +kernel) (by decide +kernel), fun _ => ⟨m_w 722 (by decide +kernel) (by decide +kernel), _, _, rfl⟩, fun h => absurd h (by decide)⟩
set_option maxRecDepth 100000 in
theorem m_fy95 : m_fy 95 := ⟨m_w 727 rfl rfl, m_w 55 (by decide +kernel) (by decide +kernel), ⟨by decide +kernel, by decide +kernel, by decide +kernel⟩, by decide, fun h => absurd h (by decide), fun _ => m_w 725 (by decide +kernel) (by decide +kernel), fun _ => ⟨m_w 726 (by decide +kernel) (by decide +kernel), _, _, rfl⟩, fun h => absurd h (by decide)⟩
set_option maxRecDepth 100000 in
theorem m_fy96 : m_fy 96 := ⟨m_w 731 rfl rfl, m_w 55 (by decide +kernel) (by decide +kernel), ⟨by decide +kernel, by decide +kernel, by decide +kernel⟩, by decide, fun h => absurd h (by decide), fun _ => m_w 730 (by decide +kernel) (by decide +kernel), fun _ => ⟨m_w 44 (by decide +kernel) (by decide +kernel), _, _, rfl⟩, fun h => absurd h (by decide)⟩
set_option maxRecDepth 100000 in
theorem m_fy97 : m_fy 97 := ⟨m_w 735 rfl rfl, m_w 55 (by decide +kernel) (by decide +kernel), ⟨by decide +kernel, by decide +kernel, by decide +kernel⟩, by decide, fun h => absurd h (by decide), fun _ => m_w 733 (by decide +kernel) (by decide +kernel), fun _ => ⟨m_w 734 (by decide +kernel) (by decide +kernel), _, _, rfl⟩, fun h => absurd h (by decide)⟩
set_option maxRecDepth 100000 in
theorem m_fy98 : m_fy 98 := ⟨m_w 739 rfl rfl, m_w 55 (by decide +kernel) (by decide +kernel), ⟨by decide +kernel, by decide +kernel, by decide +kernel⟩, by decide, fun h => absurd h (by decide), fun _ => m_w 737 (by decide +kernel) (by decide +kernel), fun _ => ⟨m_w 738 (by decide +kernel) (by decide +kernel), _, _, rfl⟩, fun h => absurd h (by decide)⟩
set_option maxRecDepth 100000 in
theorem m_fy99 : m_fy 99 := ⟨m_w 743 rfl rfl, m_w 55 (by decide +kernel) (by decide +kernel), ⟨by decide +kernel, by decide +kernel, by decide +kernel⟩, by decide, fun h => absurd h (by decide), fun _ => m_w 741 (by decide +kernel) (by decide +kernel), fun _ => ⟨m_w 742 (by decide +kernel) (by decide +kernel), _, _, rfl⟩, fun h => absurd h (by decide)⟩
set_option maxRecDepth 100000 in
theorem m_fy100 : m_fy 100 := ⟨m_w 747 rfl rfl, m_w 55 (by decide +kernel) (by decide +kernel), ⟨by decide +kernel, by decide +kernel, by decide +kernel⟩, by decide, fun h => absurd h (by decide), fun _ => m_w 745 (by decide +kernel) (by decide +kernel), fun _ => ⟨m_w 746 (by decide +kernel) (by decide +kernel), _, _, rfl⟩, fun h => absurd h (by decide)⟩
def m_mlq (c : Nat) (e : Nat × Nat) : Prop := if e.2 = 0 then Cond.methodLink (m_cn c) e.1 Lib.objectInit ∈ m_W0 else m_fy e.2 ∧ m_lmw (m_cn c) e.1 (m_mn e.2)
theorem m_ml0_1 : m_mlq 0 (1, 0) := m_w 61 (by decide +kernel) (by decide +kernel)
theorem m_ml0_9 : m_mlq 0 (9, 1) := ⟨m_fy1, Or.inr ⟨"PropagationDesk", List.mem_of_getElem? (i := 66) (by decide +kernel)⟩⟩
theorem m_ml0_32 : m_mlq 0 (32, 3) := ⟨m_fy3, Or.inr ⟨"PropagationDesk", List.mem_of_getElem? (i := 102) (by decide +kernel)⟩⟩
theorem m_ml0_33 : m_mlq 0 (33, 4) := ⟨m_fy4, Or.inr ⟨"PropagationDesk", List.mem_of_getElem? (i := 137) (by decide +kernel)⟩⟩
theorem m_ml0_36 : m_mlq 0 (36, 6) := ⟨m_fy6, Or.inr ⟨"PropagationDesk", List.mem_of_getElem? (i := 214) (by decide +kernel)⟩⟩
theorem m_ml0_44 : m_mlq 0 (44, 8) := ⟨m_fy8, Or.inl (m_w 260 (by decide +kernel) (by decide +kernel))⟩
theorem m_ml0_48 : m_mlq 0 (48, 9) := ⟨m_fy9, Or.inl (m_w 264 (by decide +kernel) (by decide +kernel))⟩
theorem m_ml0_59 : m_mlq 0 (59, 12) := ⟨m_fy12, Or.inl (m_w 276 (by decide +kernel) (by decide +kernel))⟩
theorem m_ml0_62 : m_mlq 0 (62, 13) := ⟨m_fy13, Or.inl (m_w 280 (by decide +kernel) (by decide +kernel))⟩
theorem m_ml0_66 : m_mlq 0 (66, 15) := ⟨m_fy15, Or.inl (m_w 288 (by decide +kernel) (by decide +kernel))⟩
theorem m_ml0_70 : m_mlq 0 (70, 17) := ⟨m_fy17, Or.inl (m_w 295 (by decide +kernel) (by decide +kernel))⟩
theorem m_ml0_74 : m_mlq 0 (74, 19) := ⟨m_fy19, Or.inl (m_w 303 (by decide +kernel) (by decide +kernel))⟩
theorem m_ml0_80 : m_mlq 0 (80, 20) := ⟨m_fy20, Or.inl (m_w 307 (by decide +kernel) (by decide +kernel))⟩
theorem m_ml0_84 : m_mlq 0 (84, 16) := ⟨m_fy16, Or.inl (m_w 292 (by decide +kernel) (by decide +kernel))⟩
theorem m_ml0_87 : m_mlq 0 (87, 39) := ⟨m_fy39, Or.inl (m_w 383 (by decide +kernel) (by decide +kernel))⟩
theorem m_ml0_91 : m_mlq 0 (91, 43) := ⟨m_fy43, Or.inl (m_w 400 (by decide +kernel) (by decide +kernel))⟩
theorem m_ml0_98 : m_mlq 0 (98, 57) := ⟨m_fy57, Or.inl (m_w 458 (by decide +kernel) (by decide +kernel))⟩
theorem m_ml0_110 : m_mlq 0 (110, 21) := ⟨m_fy21, Or.inl (m_w 311 (by decide +kernel) (by decide +kernel))⟩
theorem m_ml0_126 : m_mlq 0 (126, 28) := ⟨m_fy28, Or.inl (m_w 339 (by decide +kernel) (by decide +kernel))⟩
theorem m_ml0_130 : m_mlq 0 (130, 42) := ⟨m_fy42, Or.inl (m_w 396 (by decide +kernel) (by decide +kernel))⟩
theorem m_ml0_134 : m_mlq 0 (134, 22) := ⟨m_fy22, Or.inl (m_w 315 (by decide +kernel) (by decide +kernel))⟩
theorem m_ml0_135 : m_mlq 0 (135, 23) := ⟨m_fy23, Or.inl (m_w 319 (by decide +kernel) (by decide +kernel))⟩
theorem m_ml0_139 : m_mlq 0 (139, 26) := ⟨m_fy26, Or.inl (m_w 331 (by decide +kernel) (by decide +kernel))⟩
theorem m_ml0_142 : m_mlq 0 (142, 24) := ⟨m_fy24, Or.inl (m_w 323 (by decide +kernel) (by decide +kernel))⟩
theorem m_ml0_150 : m_mlq 0 (150, 27) := ⟨m_fy27, Or.inl (m_w 335 (by decide +kernel) (by decide +kernel))⟩
theorem m_ml0_163 : m_mlq 0 (163, 25) := ⟨m_fy25, Or.inl (m_w 327 (by decide +kernel) (by decide +kernel))⟩
theorem m_ml0_170 : m_mlq 0 (170, 44) := ⟨m_fy44, Or.inl (m_w 406 (by decide +kernel) (by decide +kernel))⟩
theorem m_ml0_174 : m_mlq 0 (174, 46) := ⟨m_fy46, Or.inl (m_w 414 (by decide +kernel) (by decide +kernel))⟩
theorem m_ml0_184 : m_mlq 0 (184, 45) := ⟨m_fy45, Or.inl (m_w 410 (by decide +kernel) (by decide +kernel))⟩
theorem m_ml0_187 : m_mlq 0 (187, 47) := ⟨m_fy47, Or.inl (m_w 418 (by decide +kernel) (by decide +kernel))⟩
theorem m_ml0_191 : m_mlq 0 (191, 48) := ⟨m_fy48, Or.inl (m_w 422 (by decide +kernel) (by decide +kernel))⟩
theorem m_ml0_194 : m_mlq 0 (194, 50) := ⟨m_fy50, Or.inl (m_w 430 (by decide +kernel) (by decide +kernel))⟩
theorem m_ml0_203 : m_mlq 0 (203, 33) := ⟨m_fy33, Or.inl (m_w 359 (by decide +kernel) (by decide +kernel))⟩
theorem m_ml0_211 : m_mlq 0 (211, 49) := ⟨m_fy49, Or.inl (m_w 426 (by decide +kernel) (by decide +kernel))⟩
theorem m_ml0_215 : m_mlq 0 (215, 32) := ⟨m_fy32, Or.inl (m_w 355 (by decide +kernel) (by decide +kernel))⟩
theorem m_ml0_219 : m_mlq 0 (219, 29) := ⟨m_fy29, Or.inl (m_w 343 (by decide +kernel) (by decide +kernel))⟩
theorem m_ml0_222 : m_mlq 0 (222, 34) := ⟨m_fy34, Or.inl (m_w 363 (by decide +kernel) (by decide +kernel))⟩
theorem m_ml0_225 : m_mlq 0 (225, 37) := ⟨m_fy37, Or.inl (m_w 375 (by decide +kernel) (by decide +kernel))⟩
theorem m_ml0_227 : m_mlq 0 (227, 38) := ⟨m_fy38, Or.inl (m_w 379 (by decide +kernel) (by decide +kernel))⟩
theorem m_ml0_230 : m_mlq 0 (230, 41) := ⟨m_fy41, Or.inl (m_w 392 (by decide +kernel) (by decide +kernel))⟩
theorem m_ml0_234 : m_mlq 0 (234, 30) := ⟨m_fy30, Or.inl (m_w 347 (by decide +kernel) (by decide +kernel))⟩
theorem m_ml0_238 : m_mlq 0 (238, 31) := ⟨m_fy31, Or.inl (m_w 351 (by decide +kernel) (by decide +kernel))⟩
theorem m_ml0_244 : m_mlq 0 (244, 35) := ⟨m_fy35, Or.inl (m_w 367 (by decide +kernel) (by decide +kernel))⟩
theorem m_ml0_251 : m_mlq 0 (251, 36) := ⟨m_fy36, Or.inl (m_w 371 (by decide +kernel) (by decide +kernel))⟩
theorem m_mls0 : ∀ e ∈ m_mls.getD 0 [], m_mlq 0 e := List.forall_mem_cons.mpr ⟨m_ml0_1, List.forall_mem_cons.mpr ⟨m_ml0_9, List.forall_mem_cons.mpr ⟨m_ml0_32, List.forall_mem_cons.mpr ⟨m_ml0_33, List.forall_mem_cons.mpr ⟨m_ml0_36, List.forall_mem_cons.mpr ⟨m_ml0_44, List.forall_mem_cons.mpr ⟨m_ml0_48, List.forall_mem_cons.mpr ⟨m_ml0_59, List.forall_mem_cons.mpr ⟨m_ml0_62, List.forall_mem_cons.mpr ⟨m_ml0_66, List.forall_mem_cons.mpr ⟨m_ml0_70, List.forall_mem_cons.mpr ⟨m_ml0_74, List.forall_mem_cons.mpr ⟨m_ml0_80, List.forall_mem_cons.mpr ⟨m_ml0_84, List.forall_mem_cons.mpr ⟨m_ml0_87, List.forall_mem_cons.mpr ⟨m_ml0_91, List.forall_mem_cons.mpr ⟨m_ml0_98, List.forall_mem_cons.mpr ⟨m_ml0_110, List.forall_mem_cons.mpr ⟨m_ml0_126, List.forall_mem_cons.mpr ⟨m_ml0_130, List.forall_mem_cons.mpr ⟨m_ml0_134, List.forall_mem_cons.mpr ⟨m_ml0_135, List.forall_mem_cons.mpr ⟨m_ml0_139, List.forall_mem_cons.mpr ⟨m_ml0_142, List.forall_mem_cons.mpr ⟨m_ml0_150, List.forall_mem_cons.mpr ⟨m_ml0_163, List.forall_mem_cons.mpr ⟨m_ml0_170, List.forall_mem_cons.mpr ⟨m_ml0_174, List.forall_mem_cons.mpr ⟨m_ml0_184, List.forall_mem_cons.mpr ⟨m_ml0_187, List.forall_mem_cons.mpr ⟨m_ml0_191, List.forall_mem_cons.mpr ⟨m_ml0_194, List.forall_mem_cons.mpr ⟨m_ml0_203, List.forall_mem_cons.mpr ⟨m_ml0_211, List.forall_mem_cons.mpr ⟨m_ml0_215, List.forall_mem_cons.mpr ⟨m_ml0_219, List.forall_mem_cons.mpr ⟨m_ml0_222, List.forall_mem_cons.mpr ⟨m_ml0_225, List.forall_mem_cons.mpr ⟨m_ml0_227, List.forall_mem_cons.mpr ⟨m_ml0_230, List.forall_mem_cons.mpr ⟨m_ml0_234, List.forall_mem_cons.mpr ⟨m_ml0_238, List.forall_mem_cons.mpr ⟨m_ml0_244, List.forall_mem_cons.mpr ⟨m_ml0_251, fun _ h => absurd h List.not_mem_nil⟩⟩⟩⟩⟩⟩⟩⟩⟩⟩⟩⟩⟩⟩⟩⟩⟩⟩⟩⟩⟩⟩⟩⟩⟩⟩⟩⟩⟩⟩⟩⟩⟩⟩⟩⟩⟩⟩⟩⟩⟩⟩⟩⟩
theorem m_ml1_3 : m_mlq 1 (3, 0) := m_w 69 (by decide +kernel) (by decide +kernel)
theorem m_ml1_28 : m_mlq 1 (28, 8) := ⟨m_fy8, Or.inl (m_w 391 (by decide +kernel) (by decide +kernel))⟩
theorem m_ml1_32 : m_mlq 1 (32, 40) := ⟨m_fy40, Or.inl (m_w 387 (by decide +kernel) (by decide +kernel))⟩
theorem m_mls1 : ∀ e ∈ m_mls.getD 1 [], m_mlq 1 e := List.forall_mem_cons.mpr ⟨m_ml1_3, List.forall_mem_cons.mpr ⟨m_ml1_28, List.forall_mem_cons.mpr ⟨m_ml1_32, fun _ h => absurd h List.not_mem_nil⟩⟩⟩
theorem m_ml2_3 : m_mlq 2 (3, 0) := m_w 105 (by decide +kernel) (by decide +kernel)
theorem m_ml2_35 : m_mlq 2 (35, 39) := ⟨m_fy39, Or.inl (m_w 404 (by decide +kernel) (by decide +kernel))⟩
theorem m_ml2_41 : m_mlq 2 (41, 40) := ⟨m_fy40, Or.inl (m_w 405 (by decide +kernel) (by decide +kernel))⟩
theorem m_mls2 : ∀ e ∈ m_mls.getD 2 [], m_mlq 2 e := List.forall_mem_cons.mpr ⟨m_ml2_3, List.forall_mem_cons.mpr ⟨m_ml2_35, List.forall_mem_cons.mpr ⟨m_ml2_41, fun _ h => absurd h List.not_mem_nil⟩⟩⟩
theorem m_ml3_3 : m_mlq 3 (3, 0) := m_w 146 (by decide +kernel) (by decide +kernel)
theorem m_mls3 : ∀ e ∈ m_mls.getD 3 [], m_mlq 3 e := List.forall_mem_cons.mpr ⟨m_ml3_3, fun _ h => absurd h List.not_mem_nil⟩
theorem m_ml4_3 : m_mlq 4 (3, 0) := m_w 140 (by decide +kernel) (by decide +kernel)
theorem m_ml4_11 : m_mlq 4 (11, 5) := ⟨m_fy5, Or.inr ⟨"PropagationDesk", List.mem_of_getElem? (i := 143) (by decide +kernel)⟩⟩
theorem m_mls4 : ∀ e ∈ m_mls.getD 4 [], m_mlq 4 e := List.forall_mem_cons.mpr ⟨m_ml4_3, List.forall_mem_cons.mpr ⟨m_ml4_11, fun _ h => absurd h List.not_mem_nil⟩⟩
theorem m_ml5_3 : m_mlq 5 (3, 0) := m_w 217 (by decide +kernel) (by decide +kernel)
theorem m_mls5 : ∀ e ∈ m_mls.getD 5 [], m_mlq 5 e := List.forall_mem_cons.mpr ⟨m_ml5_3, fun _ h => absurd h List.not_mem_nil⟩
theorem m_ml6_1 : m_mlq 6 (1, 0) := m_w 483 (by decide +kernel) (by decide +kernel)
theorem m_ml6_108 : m_mlq 6 (108, 64) := ⟨m_fy64, Or.inl (m_w 600 (by decide +kernel) (by decide +kernel))⟩
theorem m_ml6_112 : m_mlq 6 (112, 67) := ⟨m_fy67, Or.inl (m_w 612 (by decide +kernel) (by decide +kernel))⟩
theorem m_ml6_115 : m_mlq 6 (115, 69) := ⟨m_fy69, Or.inl (m_w 620 (by decide +kernel) (by decide +kernel))⟩
theorem m_ml6_119 : m_mlq 6 (119, 71) := ⟨m_fy71, Or.inl (m_w 628 (by decide +kernel) (by decide +kernel))⟩
theorem m_ml6_123 : m_mlq 6 (123, 73) := ⟨m_fy73, Or.inl (m_w 636 (by decide +kernel) (by decide +kernel))⟩
theorem m_ml6_130 : m_mlq 6 (130, 80) := ⟨m_fy80, Or.inl (m_w 664 (by decide +kernel) (by decide +kernel))⟩
theorem m_ml6_134 : m_mlq 6 (134, 90) := ⟨m_fy90, Or.inl (m_w 704 (by decide +kernel) (by decide +kernel))⟩
theorem m_ml6_138 : m_mlq 6 (138, 89) := ⟨m_fy89, Or.inl (m_w 700 (by decide +kernel) (by decide +kernel))⟩
theorem m_ml6_151 : m_mlq 6 (151, 76) := ⟨m_fy76, Or.inl (m_w 648 (by decide +kernel) (by decide +kernel))⟩
theorem m_ml6_154 : m_mlq 6 (154, 77) := ⟨m_fy77, Or.inl (m_w 652 (by decide +kernel) (by decide +kernel))⟩
theorem m_ml6_157 : m_mlq 6 (157, 91) := ⟨m_fy91, Or.inl (m_w 708 (by decide +kernel) (by decide +kernel))⟩
theorem m_ml6_160 : m_mlq 6 (160, 87) := ⟨m_fy87, Or.inl (m_w 692 (by decide +kernel) (by decide +kernel))⟩
theorem m_ml6_164 : m_mlq 6 (164, 88) := ⟨m_fy88, Or.inl (m_w 696 (by decide +kernel) (by decide +kernel))⟩
theorem m_ml6_167 : m_mlq 6 (167, 79) := ⟨m_fy79, Or.inl (m_w 660 (by decide +kernel) (by decide +kernel))⟩
theorem m_ml6_173 : m_mlq 6 (173, 75) := ⟨m_fy75, Or.inl (m_w 644 (by decide +kernel) (by decide +kernel))⟩
theorem m_ml6_177 : m_mlq 6 (177, 81) := ⟨m_fy81, Or.inl (m_w 668 (by decide +kernel) (by decide +kernel))⟩
theorem m_ml6_181 : m_mlq 6 (181, 82) := ⟨m_fy82, Or.inl (m_w 672 (by decide +kernel) (by decide +kernel))⟩
theorem m_ml6_184 : m_mlq 6 (184, 83) := ⟨m_fy83, Or.inl (m_w 676 (by decide +kernel) (by decide +kernel))⟩
theorem m_ml6_187 : m_mlq 6 (187, 84) := ⟨m_fy84, Or.inl (m_w 680 (by decide +kernel) (by decide +kernel))⟩
theorem m_ml6_190 : m_mlq 6 (190, 85) := ⟨m_fy85, Or.inl (m_w 684 (by decide +kernel) (by decide +kernel))⟩
theorem m_ml6_193 : m_mlq 6 (193, 78) := ⟨m_fy78, Or.inl (m_w 656 (by decide +kernel) (by decide +kernel))⟩
theorem m_ml6_196 : m_mlq 6 (196, 86) := ⟨m_fy86, Or.inl (m_w 688 (by decide +kernel) (by decide +kernel))⟩
theorem m_ml6_199 : m_mlq 6 (199, 96) := ⟨m_fy96, Or.inl (m_w 728 (by decide +kernel) (by decide +kernel))⟩
theorem m_mls6 : ∀ e ∈ m_mls.getD 6 [], m_mlq 6 e := List.forall_mem_cons.mpr ⟨m_ml6_1, List.forall_mem_cons.mpr ⟨m_ml6_108, List.forall_mem_cons.mpr ⟨m_ml6_112, List.forall_mem_cons.mpr ⟨m_ml6_115, List.forall_mem_cons.mpr ⟨m_ml6_119, List.forall_mem_cons.mpr ⟨m_ml6_123, List.forall_mem_cons.mpr ⟨m_ml6_130, List.forall_mem_cons.mpr ⟨m_ml6_134, List.forall_mem_cons.mpr ⟨m_ml6_138, List.forall_mem_cons.mpr ⟨m_ml6_151, List.forall_mem_cons.mpr ⟨m_ml6_154, List.forall_mem_cons.mpr ⟨m_ml6_157, List.forall_mem_cons.mpr ⟨m_ml6_160, List.forall_mem_cons.mpr ⟨m_ml6_164, List.forall_mem_cons.mpr ⟨m_ml6_167, List.forall_mem_cons.mpr ⟨m_ml6_173, List.forall_mem_cons.mpr ⟨m_ml6_177, List.forall_mem_cons.mpr ⟨m_ml6_181, List.forall_mem_cons.mpr ⟨m_ml6_184, List.forall_mem_cons.mpr ⟨m_ml6_187, List.forall_mem_cons.mpr ⟨m_ml6_190, List.forall_mem_cons.mpr ⟨m_ml6_193, List.forall_mem_cons.mpr ⟨m_ml6_196, List.forall_mem_cons.mpr ⟨m_ml6_199, fun _ h => absurd h List.not_mem_nil⟩⟩⟩⟩⟩⟩⟩⟩⟩⟩⟩⟩⟩⟩⟩⟩⟩⟩⟩⟩⟩⟩⟩⟩
theorem m_ml7_9 : m_mlq 7 (9, 2) := ⟨m_fy2, Or.inl (m_w 58 (by decide +kernel) (by decide +kernel))⟩
theorem m_ml7_12 : m_mlq 7 (12, 62) := ⟨m_fy62, Or.inl (m_w 480 (by decide +kernel) (by decide +kernel))⟩
theorem m_ml7_13 : m_mlq 7 (13, 7) := ⟨m_fy7, Or.inl (m_w 256 (by decide +kernel) (by decide +kernel))⟩
theorem m_ml7_17 : m_mlq 7 (17, 63) := ⟨m_fy63, Or.inl (m_w 596 (by decide +kernel) (by decide +kernel))⟩
theorem m_ml7_18 : m_mlq 7 (18, 10) := ⟨m_fy10, Or.inl (m_w 268 (by decide +kernel) (by decide +kernel))⟩
theorem m_ml7_21 : m_mlq 7 (21, 65) := ⟨m_fy65, Or.inl (m_w 604 (by decide +kernel) (by decide +kernel))⟩
theorem m_ml7_22 : m_mlq 7 (22, 11) := ⟨m_fy11, Or.inl (m_w 272 (by decide +kernel) (by decide +kernel))⟩
theorem m_ml7_26 : m_mlq 7 (26, 66) := ⟨m_fy66, Or.inl (m_w 608 (by decide +kernel) (by decide +kernel))⟩
theorem m_ml7_27 : m_mlq 7 (27, 14) := ⟨m_fy14, Or.inl (m_w 284 (by decide +kernel) (by decide +kernel))⟩
theorem m_ml7_31 : m_mlq 7 (31, 68) := ⟨m_fy68, Or.inl (m_w 616 (by decide +kernel) (by decide +kernel))⟩
theorem m_ml7_32 : m_mlq 7 (32, 18) := ⟨m_fy18, Or.inl (m_w 299 (by decide +kernel) (by decide +kernel))⟩
theorem m_ml7_35 : m_mlq 7 (35, 74) := ⟨m_fy74, Or.inl (m_w 640 (by decide +kernel) (by decide +kernel))⟩
theorem m_ml7_36 : m_mlq 7 (36, 51) := ⟨m_fy51, Or.inl (m_w 434 (by decide +kernel) (by decide +kernel))⟩
theorem m_ml7_40 : m_mlq 7 (40, 92) := ⟨m_fy92, Or.inl (m_w 712 (by decide +kernel) (by decide +kernel))⟩
theorem m_ml7_41 : m_mlq 7 (41, 52) := ⟨m_fy52, Or.inl (m_w 438 (by decide +kernel) (by decide +kernel))⟩
theorem m_ml7_44 : m_mlq 7 (44, 93) := ⟨m_fy93, Or.inl (m_w 716 (by decide +kernel) (by decide +kernel))⟩
theorem m_ml7_45 : m_mlq 7 (45, 53) := ⟨m_fy53, Or.inl (m_w 442 (by decide +kernel) (by decide +kernel))⟩
theorem m_ml7_48 : m_mlq 7 (48, 70) := ⟨m_fy70, Or.inl (m_w 624 (by decide +kernel) (by decide +kernel))⟩
theorem m_ml7_49 : m_mlq 7 (49, 54) := ⟨m_fy54, Or.inl (m_w 446 (by decide +kernel) (by decide +kernel))⟩
theorem m_ml7_52 : m_mlq 7 (52, 72) := ⟨m_fy72, Or.inl (m_w 632 (by decide +kernel) (by decide +kernel))⟩
theorem m_ml7_53 : m_mlq 7 (53, 55) := ⟨m_fy55, Or.inl (m_w 450 (by decide +kernel) (by decide +kernel))⟩
theorem m_ml7_57 : m_mlq 7 (57, 94) := ⟨m_fy94, Or.inl (m_w 720 (by decide +kernel) (by decide +kernel))⟩
theorem m_ml7_58 : m_mlq 7 (58, 56) := ⟨m_fy56, Or.inl (m_w 454 (by decide +kernel) (by decide +kernel))⟩
theorem m_ml7_61 : m_mlq 7 (61, 95) := ⟨m_fy95, Or.inl (m_w 724 (by decide +kernel) (by decide +kernel))⟩
theorem m_ml7_62 : m_mlq 7 (62, 58) := ⟨m_fy58, Or.inl (m_w 462 (by decide +kernel) (by decide +kernel))⟩
theorem m_ml7_65 : m_mlq 7 (65, 97) := ⟨m_fy97, Or.inl (m_w 732 (by decide +kernel) (by decide +kernel))⟩
theorem m_ml7_66 : m_mlq 7 (66, 59) := ⟨m_fy59, Or.inl (m_w 466 (by decide +kernel) (by decide +kernel))⟩
theorem m_ml7_69 : m_mlq 7 (69, 98) := ⟨m_fy98, Or.inl (m_w 736 (by decide +kernel) (by decide +kernel))⟩
theorem m_ml7_70 : m_mlq 7 (70, 60) := ⟨m_fy60, Or.inl (m_w 470 (by decide +kernel) (by decide +kernel))⟩
theorem m_ml7_73 : m_mlq 7 (73, 99) := ⟨m_fy99, Or.inl (m_w 740 (by decide +kernel) (by decide +kernel))⟩
theorem m_ml7_74 : m_mlq 7 (74, 61) := ⟨m_fy61, Or.inl (m_w 474 (by decide +kernel) (by decide +kernel))⟩
theorem m_ml7_77 : m_mlq 7 (77, 100) := ⟨m_fy100, Or.inl (m_w 744 (by decide +kernel) (by decide +kernel))⟩
theorem m_mls7 : ∀ e ∈ m_mls.getD 7 [], m_mlq 7 e := List.forall_mem_cons.mpr ⟨m_ml7_9, List.forall_mem_cons.mpr ⟨m_ml7_12, List.forall_mem_cons.mpr ⟨m_ml7_13, List.forall_mem_cons.mpr ⟨m_ml7_17, List.forall_mem_cons.mpr ⟨m_ml7_18, List.forall_mem_cons.mpr ⟨m_ml7_21, List.forall_mem_cons.mpr ⟨m_ml7_22, List.forall_mem_cons.mpr ⟨m_ml7_26, List.forall_mem_cons.mpr ⟨m_ml7_27, List.forall_mem_cons.mpr ⟨m_ml7_31, List.forall_mem_cons.mpr ⟨m_ml7_32, List.forall_mem_cons.mpr ⟨m_ml7_35, List.forall_mem_cons.mpr ⟨m_ml7_36, List.forall_mem_cons.mpr ⟨m_ml7_40, List.forall_mem_cons.mpr ⟨m_ml7_41, List.forall_mem_cons.mpr ⟨m_ml7_44, List.forall_mem_cons.mpr ⟨m_ml7_45, List.forall_mem_cons.mpr ⟨m_ml7_48, List.forall_mem_cons.mpr ⟨m_ml7_49, List.forall_mem_cons.mpr ⟨m_ml7_52, List.forall_mem_cons.mpr ⟨m_ml7_53, List.forall_mem_cons.mpr ⟨m_ml7_57, List.forall_mem_cons.mpr ⟨m_ml7_58, List.forall_mem_cons.mpr ⟨m_ml7_61, List.forall_mem_cons.mpr ⟨m_ml7_62, List.forall_mem_cons.mpr ⟨m_ml7_65, List.forall_mem_cons.mpr ⟨m_ml7_66, List.forall_mem_cons.mpr ⟨m_ml7_69, List.forall_mem_cons.mpr ⟨m_ml7_70, List.forall_mem_cons.mpr ⟨m_ml7_73, List.forall_mem_cons.mpr ⟨m_ml7_74, List.forall_mem_cons.mpr ⟨m_ml7_77, fun _ h => absurd h List.not_mem_nil⟩⟩⟩⟩⟩⟩⟩⟩⟩⟩⟩⟩⟩⟩⟩⟩⟩⟩⟩⟩⟩⟩⟩⟩⟩⟩⟩⟩⟩⟩⟩⟩
theorem m_mls8 : ∀ e ∈ m_mls.getD 8 [], m_mlq 8 e := fun _ h => absurd h List.not_mem_nil
theorem m_mls_all (c : Nat) : ∀ e ∈ m_mls.getD c [], m_mlq c e := by
  match c with
  | 0 => exact m_mls0
  | 1 => exact m_mls1
  | 2 => exact m_mls2
  | 3 => exact m_mls3
  | 4 => exact m_mls4
  | 5 => exact m_mls5
  | 6 => exact m_mls6
  | 7 => exact m_mls7
  | 8 => exact m_mls8
  | n + 9 =>
    intro e he
    exact absurd he (by rw [show m_mls.getD (n + 9) [] = [] from rfl]; exact List.not_mem_nil)
theorem m_ml_ok {me idx y : Nat} (h : m_ml me idx = some y) (hy : y ≠ 0) : m_fy y ∧ m_lmw (m_on me) idx (m_mn y) := by
  have hm := m_look h
  have h1 := m_mls_all _ _ hm
  unfold m_mlq at h1
  rw [if_neg hy] at h1
  rw [m_fl_oc rfl _ hm]
  exact h1
theorem m_oi_ok {me idx : Nat} (h : m_ml me idx = some 0) : Cond.methodLink (m_on me) idx Lib.objectInit ∈ m_W0 ∧ Cond.instanceMethod Lib.objectInit ∈ m_W0 ∧ Cond.code Lib.objectInit ⟨#[0xb1]⟩ 1 none ∈ m_W0 := by
  have hm := m_look h
  have h1 := m_mls_all _ _ hm
  unfold m_mlq at h1
  rw [if_pos rfl] at h1
  rw [m_fl_oc rfl _ hm]
  exact ⟨h1, m_w 62 (by decide +kernel) (by decide +kernel), m_w 63 (by decide +kernel) rfl⟩
def m_nwq (c : Nat) (e : Nat × Nat) : Prop := ∃ C T N ty, m_ff e.2 C T N ty ∧ Cond.classLink (m_cn c) e.1 C ∈ m_W0 ∧ Cond.instantiable C N ∈ m_W0 ∧ Cond.initialized C ∈ m_W0
theorem m_nw0_7 : m_nwq 0 (7, 1) := ⟨_, _, _, _, m_ff1, m_w 64 (by decide +kernel) (by decide +kernel), m_w 65 (by decide +kernel) (by decide +kernel), m_w 47 (by decide +kernel) (by decide +kernel)⟩
theorem m_nw0_16 : m_nwq 0 (16, 2) := ⟨_, _, _, _, m_ff2, m_w 97 (by decide +kernel) (by decide +kernel), m_w 101 (by decide +kernel) (by decide +kernel), m_w 51 (by decide +kernel) (by decide +kernel)⟩
theorem m_nw0_26 : m_nwq 0 (26, 4) := ⟨_, _, _, _, m_ff4, m_w 99 (by decide +kernel) (by decide +kernel), m_w 136 (by decide +kernel) (by decide +kernel), m_w 52 (by decide +kernel) (by decide +kernel)⟩
theorem m_nw0_34 : m_nwq 0 (34, 5) := ⟨_, _, _, _, m_ff5, m_w 212 (by decide +kernel) (by decide +kernel), m_w 213 (by decide +kernel) (by decide +kernel), m_w 54 (by decide +kernel) (by decide +kernel)⟩
theorem m_nws0 : ∀ e ∈ m_nws.getD 0 [], m_nwq 0 e := List.forall_mem_cons.mpr ⟨m_nw0_7, List.forall_mem_cons.mpr ⟨m_nw0_16, List.forall_mem_cons.mpr ⟨m_nw0_26, List.forall_mem_cons.mpr ⟨m_nw0_34, fun _ h => absurd h List.not_mem_nil⟩⟩⟩⟩
theorem m_nws1 : ∀ e ∈ m_nws.getD 1 [], m_nwq 1 e := fun _ h => absurd h List.not_mem_nil
theorem m_nws2 : ∀ e ∈ m_nws.getD 2 [], m_nwq 2 e := fun _ h => absurd h List.not_mem_nil
theorem m_nws3 : ∀ e ∈ m_nws.getD 3 [], m_nwq 3 e := fun _ h => absurd h List.not_mem_nil
theorem m_nw4_9 : m_nwq 4 (9, 3) := ⟨_, _, _, _, m_ff3, m_w 141 (by decide +kernel) (by decide +kernel), m_w 142 (by decide +kernel) (by decide +kernel), m_w 53 (by decide +kernel) (by decide +kernel)⟩
theorem m_nws4 : ∀ e ∈ m_nws.getD 4 [], m_nwq 4 e := List.forall_mem_cons.mpr ⟨m_nw4_9, fun _ h => absurd h List.not_mem_nil⟩
theorem m_nws5 : ∀ e ∈ m_nws.getD 5 [], m_nwq 5 e := fun _ h => absurd h List.not_mem_nil
theorem m_nws6 : ∀ e ∈ m_nws.getD 6 [], m_nwq 6 e := fun _ h => absurd h List.not_mem_nil
theorem m_nw7_7 : m_nwq 7 (7, 0) := ⟨_, _, _, _, m_ff0, m_w 56 (by decide +kernel) (by decide +kernel), m_w 57 (by decide +kernel) (by decide +kernel), m_w 46 (by decide +kernel) (by decide +kernel)⟩
theorem m_nw7_10 : m_nwq 7 (10, 6) := ⟨_, _, _, _, m_ff6, m_w 478 (by decide +kernel) (by decide +kernel), m_w 479 (by decide +kernel) (by decide +kernel), m_w 55 (by decide +kernel) (by decide +kernel)⟩
theorem m_nws7 : ∀ e ∈ m_nws.getD 7 [], m_nwq 7 e := List.forall_mem_cons.mpr ⟨m_nw7_7, List.forall_mem_cons.mpr ⟨m_nw7_10, fun _ h => absurd h List.not_mem_nil⟩⟩
theorem m_nws8 : ∀ e ∈ m_nws.getD 8 [], m_nwq 8 e := fun _ h => absurd h List.not_mem_nil
theorem m_nws_all (c : Nat) : ∀ e ∈ m_nws.getD c [], m_nwq c e := by
  match c with
  | 0 => exact m_nws0
  | 1 => exact m_nws1
  | 2 => exact m_nws2
  | 3 => exact m_nws3
  | 4 => exact m_nws4
  | 5 => exact m_nws5
  | 6 => exact m_nws6
  | 7 => exact m_nws7
  | 8 => exact m_nws8
  | n + 9 =>
    intro e he
    exact absurd he (by rw [show m_nws.getD (n + 9) [] = [] from rfl]; exact List.not_mem_nil)
theorem m_cl_ok {me idx ci : Nat} (h : m_cl me idx = some ci) : ∃ C T N ty, m_ff ci C T N ty ∧ Cond.classLink (m_on me) idx C ∈ m_W0 ∧ Cond.instantiable C N ∈ m_W0 ∧ Cond.initialized C ∈ m_W0 := by
  have hm := m_look h
  rw [m_fl_oc rfl _ hm]
  exact m_nws_all _ _ hm
def m_anq (c : Nat) (e : Nat × Nat) : Prop := (e.2 = 3 ∨ e.2 = 4) ∧ Cond.classLink (m_cn c) e.1 (m_cn (m_ak e.2)) ∈ m_W0 ∧ Cond.arrayOver (.object (m_cn (m_ak e.2))) ∈ lw_tbl
theorem m_an0_16 : m_anq 0 (16, 3) := ⟨by decide, m_w 97 (by decide +kernel) (by decide +kernel), List.mem_of_getElem? (i := 98) (by decide +kernel)⟩
theorem m_an0_26 : m_anq 0 (26, 4) := ⟨by decide, m_w 99 (by decide +kernel) (by decide +kernel), List.mem_of_getElem? (i := 100) (by decide +kernel)⟩
theorem m_ans0 : ∀ e ∈ m_ans.getD 0 [], m_anq 0 e := List.forall_mem_cons.mpr ⟨m_an0_16, List.forall_mem_cons.mpr ⟨m_an0_26, fun _ h => absurd h List.not_mem_nil⟩⟩
theorem m_ans1 : ∀ e ∈ m_ans.getD 1 [], m_anq 1 e := fun _ h => absurd h List.not_mem_nil
theorem m_ans2 : ∀ e ∈ m_ans.getD 2 [], m_anq 2 e := fun _ h => absurd h List.not_mem_nil
theorem m_ans3 : ∀ e ∈ m_ans.getD 3 [], m_anq 3 e := fun _ h => absurd h List.not_mem_nil
theorem m_ans4 : ∀ e ∈ m_ans.getD 4 [], m_anq 4 e := fun _ h => absurd h List.not_mem_nil
theorem m_ans5 : ∀ e ∈ m_ans.getD 5 [], m_anq 5 e := fun _ h => absurd h List.not_mem_nil
theorem m_ans6 : ∀ e ∈ m_ans.getD 6 [], m_anq 6 e := fun _ h => absurd h List.not_mem_nil
theorem m_ans7 : ∀ e ∈ m_ans.getD 7 [], m_anq 7 e := fun _ h => absurd h List.not_mem_nil
theorem m_ans8 : ∀ e ∈ m_ans.getD 8 [], m_anq 8 e := fun _ h => absurd h List.not_mem_nil
theorem m_ans_all (c : Nat) : ∀ e ∈ m_ans.getD c [], m_anq c e := by
  match c with
  | 0 => exact m_ans0
  | 1 => exact m_ans1
  | 2 => exact m_ans2
  | 3 => exact m_ans3
  | 4 => exact m_ans4
  | 5 => exact m_ans5
  | 6 => exact m_ans6
  | 7 => exact m_ans7
  | 8 => exact m_ans8
  | n + 9 =>
    intro e he
    exact absurd he (by rw [show m_ans.getD (n + 9) [] = [] from rfl]; exact List.not_mem_nil)
theorem m_ca_ok {me idx t : Nat} (h : m_ca me idx = some t) : (t = 3 ∨ t = 4) ∧ Cond.classLink (m_on me) idx (m_cn (m_ak t)) ∈ m_W0 ∧ Cond.arrayOver (.object (m_cn (m_ak t))) ∈ lw_tbl := by
  have hm := m_look h
  rw [m_fl_oc rfl _ hm]
  exact m_ans_all _ _ hm
theorem m_ak_ok {t : Nat} (h : t = 3 ∨ t = 4) : ∃ T N ty, m_ff (m_ak t) (m_cn (m_ak t)) T N ty := by
  rcases h with rfl | rfl
  · exact ⟨_, _, _, m_ff2⟩
  · exact ⟨_, _, _, m_ff4⟩
end
section
def m_ck (b : ByteArray) (l : List (Nat × Jvm.ClassFile.Instr)) : Bool := l.all (fun e => match decode b e.1 with
  | .ok r => decide (r.1 = e.2) && m_lk e.1 r.1 r.2
  | _ => false)
theorem m_ck0 : m_ck ByteArray.empty m_cd0 = true := by decide +kernel
theorem m_ck1 : m_ck prog_4_method_1_code m_cd1 = true := by decide +kernel
theorem m_ck2 : m_ck prog_1_method_1_code m_cd2 = true := by decide +kernel
theorem m_ck3 : m_ck prog_5_method_1_code m_cd3 = true := by decide +kernel
theorem m_ck4 : m_ck prog_2_method_1_code m_cd4 = true := by decide +kernel
theorem m_ck5 : m_ck prog_6_method_1_code m_cd5 = true := by decide +kernel
theorem m_ck6 : m_ck prog_3_method_1_code m_cd6 = true := by decide +kernel
theorem m_ck7 : m_ck prog_1_method_2_code m_cd7 = true := by decide +kernel
theorem m_ck8 : m_ck prog_4_method_2_code m_cd8 = true := by decide +kernel
theorem m_ck9 : m_ck prog_4_method_3_code m_cd9 = true := by decide +kernel
theorem m_ck10 : m_ck prog_1_method_3_code m_cd10 = true := by decide +kernel
theorem m_ck11 : m_ck prog_1_method_4_code m_cd11 = true := by decide +kernel
theorem m_ck12 : m_ck prog_1_method_17_code m_cd12 = true := by decide +kernel
theorem m_ck13 : m_ck prog_5_method_2_code m_cd13 = true := by decide +kernel
theorem m_ck14 : m_ck prog_1_method_5_code m_cd14 = true := by decide +kernel
theorem m_ck15 : m_ck prog_1_method_19_code m_cd15 = true := by decide +kernel
theorem m_ck16 : m_ck prog_1_method_18_code m_cd16 = true := by decide +kernel
theorem m_ck17 : m_ck prog_5_method_3_code m_cd17 = true := by decide +kernel
theorem m_ck18 : m_ck prog_1_method_6_code m_cd18 = true := by decide +kernel
theorem m_ck19 : m_ck prog_3_method_2_code m_cd19 = true := by decide +kernel
theorem m_ck20 : m_ck prog_1_method_20_code m_cd20 = true := by decide +kernel
theorem m_ck21 : m_ck prog_1_method_21_code m_cd21 = true := by decide +kernel
theorem m_ck22 : m_ck prog_2_method_2_code m_cd22 = true := by decide +kernel
theorem m_ck23 : m_ck prog_1_method_22_code m_cd23 = true := by decide +kernel
theorem m_ck24 : m_ck prog_1_method_24_code m_cd24 = true := by decide +kernel
theorem m_ck25 : m_ck prog_6_method_2_code m_cd25 = true := by decide +kernel
theorem m_ck26 : m_ck prog_1_method_23_code m_cd26 = true := by decide +kernel
theorem m_ck27 : m_ck prog_2_method_3_code m_cd27 = true := by decide +kernel
theorem m_ck28 : m_ck prog_1_method_32_code m_cd28 = true := by decide +kernel
theorem m_ck29 : m_ck prog_1_method_33_code m_cd29 = true := by decide +kernel
theorem m_ck30 : m_ck prog_1_method_37_code m_cd30 = true := by decide +kernel
theorem m_ck31 : m_ck prog_1_method_38_code m_cd31 = true := by decide +kernel
theorem m_ck32 : m_ck prog_6_method_3_code m_cd32 = true := by decide +kernel
theorem m_ck33 : m_ck prog_3_method_3_code m_cd33 = true := by decide +kernel
theorem m_ck34 : m_ck prog_1_method_34_code m_cd34 = true := by decide +kernel
theorem m_ck35 : m_ck prog_1_method_39_code m_cd35 = true := by decide +kernel
theorem m_ck36 : m_ck prog_6_method_4_code m_cd36 = true := by decide +kernel
theorem m_ck37 : m_ck prog_1_method_35_code m_cd37 = true := by decide +kernel
theorem m_ck38 : m_ck prog_1_method_36_code m_cd38 = true := by decide +kernel
theorem m_ck39 : m_ck prog_4_method_5_code m_cd39 = true := by decide +kernel
theorem m_ck40 : m_ck prog_4_method_4_code m_cd40 = true := by decide +kernel
theorem m_ck41 : m_ck prog_6_method_5_code m_cd41 = true := by decide +kernel
theorem m_ck42 : m_ck prog_1_method_25_code m_cd42 = true := by decide +kernel
theorem m_ck43 : m_ck prog_5_method_4_code m_cd43 = true := by decide +kernel
theorem m_ck44 : m_ck prog_1_method_26_code m_cd44 = true := by decide +kernel
theorem m_ck45 : m_ck prog_2_method_4_code m_cd45 = true := by decide +kernel
theorem m_ck46 : m_ck prog_1_method_27_code m_cd46 = true := by decide +kernel
theorem m_ck47 : m_ck prog_1_method_28_code m_cd47 = true := by decide +kernel
theorem m_ck48 : m_ck prog_1_method_29_code m_cd48 = true := by decide +kernel
theorem m_ck49 : m_ck prog_1_method_31_code m_cd49 = true := by decide +kernel
theorem m_ck50 : m_ck prog_1_method_30_code m_cd50 = true := by decide +kernel
theorem m_ck51 : m_ck prog_1_method_7_code m_cd51 = true := by decide +kernel
theorem m_ck52 : m_ck prog_1_method_8_code m_cd52 = true := by decide +kernel
theorem m_ck53 : m_ck prog_1_method_9_code m_cd53 = true := by decide +kernel
theorem m_ck54 : m_ck prog_1_method_10_code m_cd54 = true := by decide +kernel
theorem m_ck55 : m_ck prog_1_method_11_code m_cd55 = true := by decide +kernel
theorem m_ck56 : m_ck prog_1_method_12_code m_cd56 = true := by decide +kernel
theorem m_ck57 : m_ck prog_3_method_4_code m_cd57 = true := by decide +kernel
theorem m_ck58 : m_ck prog_1_method_13_code m_cd58 = true := by decide +kernel
theorem m_ck59 : m_ck prog_1_method_14_code m_cd59 = true := by decide +kernel
theorem m_ck60 : m_ck prog_1_method_15_code m_cd60 = true := by decide +kernel
theorem m_ck61 : m_ck prog_1_method_16_code m_cd61 = true := by decide +kernel
theorem m_ck62 : m_ck prog_8_method_1_code m_cd62 = true := by decide +kernel
theorem m_ck63 : m_ck prog_8_method_4_code m_cd63 = true := by decide +kernel
theorem m_ck64 : m_ck prog_8_method_2_code m_cd64 = true := by decide +kernel
theorem m_ck65 : m_ck prog_8_method_5_code m_cd65 = true := by decide +kernel
theorem m_ck66 : m_ck prog_8_method_6_code m_cd66 = true := by decide +kernel
theorem m_ck67 : m_ck prog_8_method_3_code m_cd67 = true := by decide +kernel
theorem m_ck68 : m_ck prog_8_method_8_code m_cd68 = true := by decide +kernel
theorem m_ck69 : m_ck prog_8_method_7_code m_cd69 = true := by decide +kernel
theorem m_ck70 : m_ck prog_8_method_10_code m_cd70 = true := by decide +kernel
theorem m_ck71 : m_ck prog_8_method_9_code m_cd71 = true := by decide +kernel
theorem m_ck72 : m_ck prog_8_method_12_code m_cd72 = true := by decide +kernel
theorem m_ck73 : m_ck prog_8_method_11_code m_cd73 = true := by decide +kernel
theorem m_ck74 : m_ck prog_8_method_30_code m_cd74 = true := by decide +kernel
theorem m_ck75 : m_ck prog_8_method_19_code m_cd75 = true := by decide +kernel
theorem m_ck76 : m_ck prog_8_method_17_code m_cd76 = true := by decide +kernel
theorem m_ck77 : m_ck prog_8_method_18_code m_cd77 = true := by decide +kernel
theorem m_ck78 : m_ck prog_8_method_29_code m_cd78 = true := by decide +kernel
theorem m_ck79 : m_ck prog_8_method_20_code m_cd79 = true := by decide +kernel
theorem m_ck80 : m_ck prog_8_method_13_code m_cd80 = true := by decide +kernel
theorem m_ck81 : m_ck prog_8_method_24_code m_cd81 = true := by decide +kernel
theorem m_ck82 : m_ck prog_8_method_27_code m_cd82 = true := by decide +kernel
theorem m_ck83 : m_ck prog_8_method_25_code m_cd83 = true := by decide +kernel
theorem m_ck84 : m_ck prog_8_method_26_code m_cd84 = true := by decide +kernel
theorem m_ck85 : m_ck prog_8_method_28_code m_cd85 = true := by decide +kernel
theorem m_ck86 : m_ck prog_8_method_23_code m_cd86 = true := by decide +kernel
theorem m_ck87 : m_ck prog_8_method_21_code m_cd87 = true := by decide +kernel
theorem m_ck88 : m_ck prog_8_method_22_code m_cd88 = true := by decide +kernel
theorem m_ck89 : m_ck prog_8_method_15_code m_cd89 = true := by decide +kernel
theorem m_ck90 : m_ck prog_8_method_14_code m_cd90 = true := by decide +kernel
theorem m_ck91 : m_ck prog_8_method_16_code m_cd91 = true := by decide +kernel
theorem m_ck92 : m_ck prog_8_method_31_code m_cd92 = true := by decide +kernel
theorem m_ck93 : m_ck prog_8_method_32_code m_cd93 = true := by decide +kernel
theorem m_ck94 : m_ck prog_8_method_33_code m_cd94 = true := by decide +kernel
theorem m_ck95 : m_ck prog_8_method_35_code m_cd95 = true := by decide +kernel
theorem m_ck96 : m_ck prog_8_method_34_code m_cd96 = true := by decide +kernel
theorem m_ck97 : m_ck prog_8_method_36_code m_cd97 = true := by decide +kernel
theorem m_ck98 : m_ck prog_8_method_37_code m_cd98 = true := by decide +kernel
theorem m_ck99 : m_ck prog_8_method_38_code m_cd99 = true := by decide +kernel
theorem m_ck100 : m_ck prog_8_method_39_code m_cd100 = true := by decide +kernel
theorem m_ck101 : m_ck code m_cd101 = true := by decide +kernel
theorem m_cks : ∀ q ∈ m_bc, m_ck q.1 q.2 = true := List.forall_mem_cons.mpr ⟨m_ck0, List.forall_mem_cons.mpr ⟨m_ck1, List.forall_mem_cons.mpr ⟨m_ck2, List.forall_mem_cons.mpr ⟨m_ck3, List.forall_mem_cons.mpr ⟨m_ck4, List.forall_mem_cons.mpr ⟨m_ck5, List.forall_mem_cons.mpr ⟨m_ck6, List.forall_mem_cons.mpr ⟨m_ck7, List.forall_mem_cons.mpr ⟨m_ck8, List.forall_mem_cons.mpr ⟨m_ck9, List.forall_mem_cons.mpr ⟨m_ck10, List.forall_mem_cons.mpr ⟨m_ck11, List.forall_mem_cons.mpr ⟨m_ck12, List.forall_mem_cons.mpr ⟨m_ck13, List.forall_mem_cons.mpr ⟨m_ck14, List.forall_mem_cons.mpr ⟨m_ck15, List.forall_mem_cons.mpr ⟨m_ck16, List.forall_mem_cons.mpr ⟨m_ck17, List.forall_mem_cons.mpr ⟨m_ck18, List.forall_mem_cons.mpr ⟨m_ck19, List.forall_mem_cons.mpr ⟨m_ck20, List.forall_mem_cons.mpr ⟨m_ck21, List.forall_mem_cons.mpr ⟨m_ck22, List.forall_mem_cons.mpr ⟨m_ck23, List.forall_mem_cons.mpr ⟨m_ck24, List.forall_mem_cons.mpr ⟨m_ck25, List.forall_mem_cons.mpr ⟨m_ck26, List.forall_mem_cons.mpr ⟨m_ck27, List.forall_mem_cons.mpr ⟨m_ck28, List.forall_mem_cons.mpr ⟨m_ck29, List.forall_mem_cons.mpr ⟨m_ck30, List.forall_mem_cons.mpr ⟨m_ck31, List.forall_mem_cons.mpr ⟨m_ck32, List.forall_mem_cons.mpr ⟨m_ck33, List.forall_mem_cons.mpr ⟨m_ck34, List.forall_mem_cons.mpr ⟨m_ck35, List.forall_mem_cons.mpr ⟨m_ck36, List.forall_mem_cons.mpr ⟨m_ck37, List.forall_mem_cons.mpr ⟨m_ck38, List.forall_mem_cons.mpr ⟨m_ck39, List.forall_mem_cons.mpr ⟨m_ck40, List.forall_mem_cons.mpr ⟨m_ck41, List.forall_mem_cons.mpr ⟨m_ck42, List.forall_mem_cons.mpr ⟨m_ck43, List.forall_mem_cons.mpr ⟨m_ck44, List.forall_mem_cons.mpr ⟨m_ck45, List.forall_mem_cons.mpr ⟨m_ck46, List.forall_mem_cons.mpr ⟨m_ck47, List.forall_mem_cons.mpr ⟨m_ck48, List.forall_mem_cons.mpr ⟨m_ck49, List.forall_mem_cons.mpr ⟨m_ck50, List.forall_mem_cons.mpr ⟨m_ck51, List.forall_mem_cons.mpr ⟨m_ck52, List.forall_mem_cons.mpr ⟨m_ck53, List.forall_mem_cons.mpr ⟨m_ck54, List.forall_mem_cons.mpr ⟨m_ck55, List.forall_mem_cons.mpr ⟨m_ck56, List.forall_mem_cons.mpr ⟨m_ck57, List.forall_mem_cons.mpr ⟨m_ck58, List.forall_mem_cons.mpr ⟨m_ck59, List.forall_mem_cons.mpr ⟨m_ck60, List.forall_mem_cons.mpr ⟨m_ck61, List.forall_mem_cons.mpr ⟨m_ck62, List.forall_mem_cons.mpr ⟨m_ck63, List.forall_mem_cons.mpr ⟨m_ck64, List.forall_mem_cons.mpr ⟨m_ck65, List.forall_mem_cons.mpr ⟨m_ck66, List.forall_mem_cons.mpr ⟨m_ck67, List.forall_mem_cons.mpr ⟨m_ck68, List.forall_mem_cons.mpr ⟨m_ck69, List.forall_mem_cons.mpr ⟨m_ck70, List.forall_mem_cons.mpr ⟨m_ck71, List.forall_mem_cons.mpr ⟨m_ck72, List.forall_mem_cons.mpr ⟨m_ck73, List.forall_mem_cons.mpr ⟨m_ck74, List.forall_mem_cons.mpr ⟨m_ck75, List.forall_mem_cons.mpr ⟨m_ck76, List.forall_mem_cons.mpr ⟨m_ck77, List.forall_mem_cons.mpr ⟨m_ck78, List.forall_mem_cons.mpr ⟨m_ck79, List.forall_mem_cons.mpr ⟨m_ck80, List.forall_mem_cons.mpr ⟨m_ck81, List.forall_mem_cons.mpr ⟨m_ck82, List.forall_mem_cons.mpr ⟨m_ck83, List.forall_mem_cons.mpr ⟨m_ck84, List.forall_mem_cons.mpr ⟨m_ck85, List.forall_mem_cons.mpr ⟨m_ck86, List.forall_mem_cons.mpr ⟨m_ck87, List.forall_mem_cons.mpr ⟨m_ck88, List.forall_mem_cons.mpr ⟨m_ck89, List.forall_mem_cons.mpr ⟨m_ck90, List.forall_mem_cons.mpr ⟨m_ck91, List.forall_mem_cons.mpr ⟨m_ck92, List.forall_mem_cons.mpr ⟨m_ck93, List.forall_mem_cons.mpr ⟨m_ck94, List.forall_mem_cons.mpr ⟨m_ck95, List.forall_mem_cons.mpr ⟨m_ck96, List.forall_mem_cons.mpr ⟨m_ck97, List.forall_mem_cons.mpr ⟨m_ck98, List.forall_mem_cons.mpr ⟨m_ck99, List.forall_mem_cons.mpr ⟨m_ck100, List.forall_mem_cons.mpr ⟨m_ck101, fun _ h => absurd h List.not_mem_nil⟩⟩⟩⟩⟩⟩⟩⟩⟩⟩⟩⟩⟩⟩⟩⟩⟩⟩⟩⟩⟩⟩⟩⟩⟩⟩⟩⟩⟩⟩⟩⟩⟩⟩⟩⟩⟩⟩⟩⟩⟩⟩⟩⟩⟩⟩⟩⟩⟩⟩⟩⟩⟩⟩⟩⟩⟩⟩⟩⟩⟩⟩⟩⟩⟩⟩⟩⟩⟩⟩⟩⟩⟩⟩⟩⟩⟩⟩⟩⟩⟩⟩⟩⟩⟩⟩⟩⟩⟩⟩⟩⟩⟩⟩⟩⟩⟩⟩⟩⟩⟩⟩
theorem m_tb_ok {me pc : Nat} {i : Jvm.ClassFile.Instr} (h : m_tb me pc = some i) : ∃ n, decode (m_by me) pc = .ok (i, n) ∧ m_lk pc i n = true := by
  have hq : m_ck (m_by me) (m_bc.getD me (ByteArray.empty, [])).2 = true := m_getD (fun q : ByteArray × List (Nat × Jvm.ClassFile.Instr) => m_ck q.1 q.2 = true) m_cks rfl
  have h1 := List.all_eq_true.mp hq _ (m_look h)
  split at h1
  · rename_i r hr
    simp only [Bool.and_eq_true, decide_eq_true_eq] at h1
    obtain ⟨i', n⟩ := r
    obtain ⟨e1, e2⟩ := h1
    subst e1
    exact ⟨n, hr, e2⟩
  · cases h1
end
section
/-! The small machine is sound: one step, and all steps -/
theorem m_tgt {pc : Nat} {off : Int} (h : 0 ≤ (pc : Int) + off) : ∃ t : Nat, (pc : Int) + off = (t : Int) := ⟨((pc : Int) + off).toNat, (Int.toNat_of_nonneg h).symm⟩
theorem m_nx_of {z : Int} {t : Nat} {ls : mL} {st : mS} {w : mW} (h : z = (t : Int)) : m_nx z ls st w = m_go t ls st w := by
  subst h
  rfl
theorem m_nx_inv {cl : mC} {X : mX} {Q : mQ} {pc : Nat} {ls ls' : mL} {w w' : mW} {z : Int} {st : mS} (h : m_A cl X Q pc ls w (m_nx z ls' st w')) : ∃ t : Nat, z = (t : Int) ∧ X t ls' st w' := by
  cases z with
  | ofNat t => exact ⟨t, rfl, h⟩
  | negSucc t => exact h.elim
set_option maxHeartbeats 4000000 in
set_option maxRecDepth 100000 in
theorem m_close {l : Launch} {D : va_G} {cA : Nat → ClassId} {base bS L : Nat} {d : Nat} (IH : ∀ y as w Q, m_E d y as w Q → m_M l D cA base bS L d y as w Q) {p : Program} {e : Env} {R : Room} {s : State} {m : MethodId} {args : Array Value} {below : List Frame} {meth : Method} {c : Code} {me N0 S0 : Nat} {Q : mQ} (hR1 : d + 1 ≤ R.frames) (hR2 : 64 * (d + 1) ≤ R.locals) (hR3 : (m_bg me).1 ≤ R.cells) (hR4 : (m_bg me).2 ≤ R.slots)
    (hx : p.tables.exec = Jvm.exec) (hb : c.code = m_by me) (hml : c.maxLocals = m_mx me) (ok : ∀ x ∈ m_W0, x.before args s = true) (hown : s.vm.findClass (m_on me) = some m.cls) (hinit : (m_mn me).name = "<init>" → meth.name = "<init>") (hK : va_K D mCl (m_ty cA) s) (hN : m_ne s) {QQ : State → Prop} (hri : ∀ (pc : Nat) (ls : mL) (x : Int32) (w : mW), decode (m_by me) pc = .ok (.ireturn, 1) → (m_rt me = 1 ∨ (m_rt me = 2 ∧ (x = 0 ∨ x = 1))) → w.1.length = N0 + (m_bg me).1 → m_sl w.1 = S0 + (m_bg me).2 → Q (some (.inl x)) w → m_V D cA base bS L p l e R s m args below meth c (m_mx me) N0 S0 QQ pc ls [.inl x] w) (hrv : ∀ (pc : Nat) (ls : mL) (w : mW), decode (m_by me) pc = .ok (.return_, 1) → m_rt me = 0 → w.1.length = N0 + (m_bg me).1 → m_sl w.1 = S0 + (m_bg me).2 → Q none w → m_V D cA base bS L p l e R s m args below meth c (m_mx me) N0 S0 QQ pc ls [] w) :
    ∀ (pc : Nat) (ls : mL) (st : mS) (w : mW), m_F (m_E d) me N0 S0 (fun pc ls st w => m_V D cA base bS L p l e R s m args below meth c (m_mx me) N0 S0 QQ pc ls st w) Q pc ls st w → m_V D cA base bS L p l e R s m args below meth c (m_mx me) N0 S0 QQ pc ls st w := by
  intro pc ls st w h
  unfold m_F at h
  split at h
  · exact h.elim
  rename_i i hi
  obtain ⟨n, hd, hk⟩ := m_tb_ok hi
  cases i with
  | iconst x =>
    obtain rfl : n = 1 := by simpa [m_lk] using hk
    exact mv_iconst hx hb hd h
  | bipush x =>
    obtain rfl : n = 2 := by simpa [m_lk] using hk
    exact mv_bipush hx hb hd h
  | sipush x =>
    obtain rfl : n = 3 := by simpa [m_lk] using hk
    exact mv_sipush hx hb hd h
  | aconst_null =>
    obtain rfl : n = 1 := by simpa [m_lk] using hk
    exact mv_null hx hb hd h
  | iload_n x =>
    obtain rfl : n = 1 := by simpa [m_lk] using hk
    change m_A _ _ _ _ _ _ (m_li (pc + 1) x.val ls st w) at h
    unfold m_li at h
    split at h
    · rename_i v hv
      exact mv_iload_n hx hb hd hv h
    · exact h.elim
  | iload x =>
    obtain rfl : n = 2 := by simpa [m_lk] using hk
    change m_A _ _ _ _ _ _ (m_li (pc + 2) x ls st w) at h
    unfold m_li at h
    split at h
    · rename_i v hv
      exact mv_iload hx hb hd hv h
    · exact h.elim
  | aload_n x =>
    obtain rfl : n = 1 := by simpa [m_lk] using hk
    change m_A _ _ _ _ _ _ (m_la (pc + 1) x.val ls st w) at h
    unfold m_la at h
    split at h
    · rename_i v hv
      exact mv_aload_n hx hb hd hv h
    · exact h.elim
  | aload x =>
    obtain rfl : n = 2 := by simpa [m_lk] using hk
    change m_A _ _ _ _ _ _ (m_la (pc + 2) x ls st w) at h
    unfold m_la at h
    split at h
    · rename_i v hv
      exact mv_aload hx hb hd hv h
    · exact h.elim
  | istore_n x =>
    obtain rfl : n = 1 := by simpa [m_lk] using hk
    change m_A _ _ _ _ _ _ (m_ti (pc + 1) x.val ls st w) at h
    unfold m_ti at h
    split at h
    · split at h
      · rename_i hlt
        exact mv_istore_n hx hb hd hlt h
      · exact h.elim
    · exact h.elim
  | istore x =>
    obtain rfl : n = 2 := by simpa [m_lk] using hk
    change m_A _ _ _ _ _ _ (m_ti (pc + 2) x ls st w) at h
    unfold m_ti at h
    split at h
    · split at h
      · rename_i hlt
        exact mv_istore hx hb hd hlt h
      · exact h.elim
    · exact h.elim
  | astore_n x =>
    obtain rfl : n = 1 := by simpa [m_lk] using hk
    change m_A _ _ _ _ _ _ (m_ta (pc + 1) x.val ls st w) at h
    unfold m_ta at h
    split at h
    · split at h
      · rename_i hlt
        exact mv_astore_n hx hb hd hlt h
      · exact h.elim
    · exact h.elim
  | astore x =>
    obtain rfl : n = 2 := by simpa [m_lk] using hk
    change m_A _ _ _ _ _ _ (m_ta (pc + 2) x ls st w) at h
    unfold m_ta at h
    split at h
    · split at h
      · rename_i hlt
        exact mv_astore hx hb hd hlt h
      · exact h.elim
    · exact h.elim
  | iinc x v =>
    obtain rfl : n = 3 := by simpa [m_lk] using hk
    change m_A _ _ _ _ _ _ (match ls[x]? with | some (some (.inl y)) => m_go (pc + 3) (ls.set x (some (.inl (y + Int32.ofInt v)))) st w | _ => none) at h
    split at h
    · rename_i y hy
      exact mv_iinc hx hb hd hy h
    · exact h.elim
  | iadd =>
    obtain rfl : n = 1 := by simpa [m_lk] using hk
    change m_A _ _ _ _ _ _ (m_b2 (fun x y => x + y) (pc + 1) ls st w) at h
    unfold m_b2 at h
    split at h
    · exact mv_iadd hx hb hd h
    · exact h.elim
  | isub =>
    obtain rfl : n = 1 := by simpa [m_lk] using hk
    change m_A _ _ _ _ _ _ (m_b2 (fun x y => x - y) (pc + 1) ls st w) at h
    unfold m_b2 at h
    split at h
    · exact mv_isub hx hb hd h
    · exact h.elim
  | imul =>
    obtain rfl : n = 1 := by simpa [m_lk] using hk
    change m_A _ _ _ _ _ _ (m_b2 (fun x y => x * y) (pc + 1) ls st w) at h
    unfold m_b2 at h
    split at h
    · exact mv_imul hx hb hd h
    · exact h.elim
  | iand =>
    obtain rfl : n = 1 := by simpa [m_lk] using hk
    change m_A _ _ _ _ _ _ (m_b2 (fun x y => x &&& y) (pc + 1) ls st w) at h
    unfold m_b2 at h
    split at h
    · exact mv_iand hx hb hd h
    · exact h.elim
  | dup =>
    obtain rfl : n = 1 := by simpa [m_lk] using hk
    rcases st with _ | ⟨a, st⟩
    · exact (show False from h).elim
    · exact mv_dup hx hb hd h
  | pop =>
    obtain rfl : n = 1 := by simpa [m_lk] using hk
    rcases st with _ | ⟨a, st⟩
    · exact (show False from h).elim
    · exact mv_pop hx hb hd h
  | dup_x1 =>
    obtain rfl : n = 1 := by simpa [m_lk] using hk
    rcases st with _ | ⟨a, _ | ⟨b, st⟩⟩
    · exact (show False from h).elim
    · exact (show False from h).elim
    · exact mv_dup_x1 hx hb hd h
  | dup2 =>
    obtain rfl : n = 1 := by simpa [m_lk] using hk
    rcases st with _ | ⟨a, _ | ⟨b, st⟩⟩
    · exact (show False from h).elim
    · exact (show False from h).elim
    · exact mv_dup2 hx hb hd h
  | ifCond cn off =>
    have hk2 : n = 3 ∧ 0 ≤ (pc : Int) + off := by simpa [m_lk] using hk
    obtain ⟨rfl, hk3⟩ := hk2
    obtain ⟨t, ht⟩ := m_tgt hk3
    rcases st with _ | ⟨x | r, st⟩
    · exact (show False from h).elim
    · change m_A _ _ _ _ _ _ (m_if cn x 0 (m_nx ((pc : Int) + off) ls st w) (m_go (pc + 3) ls st w)) at h
      rw [m_nx_of ht] at h
      exact mv_if hx hb hd ht h
    · exact (show False from h).elim
  | if_icmp cn off =>
    have hk2 : n = 3 ∧ 0 ≤ (pc : Int) + off := by simpa [m_lk] using hk
    obtain ⟨rfl, hk3⟩ := hk2
    obtain ⟨t, ht⟩ := m_tgt hk3
    rcases st with _ | ⟨y | r, _ | ⟨x | r2, st⟩⟩
    · exact (show False from h).elim
    · exact (show False from h).elim
    · change m_A _ _ _ _ _ _ (m_if cn x y (m_nx ((pc : Int) + off) ls st w) (m_go (pc + 3) ls st w)) at h
      rw [m_nx_of ht] at h
      exact mv_icmp hx hb hd ht h
    · exact (show False from h).elim
    · exact (show False from h).elim
    · exact (show False from h).elim
    · exact (show False from h).elim
  | ifnull off =>
    have hk2 : n = 3 ∧ 0 ≤ (pc : Int) + off := by simpa [m_lk] using hk
    obtain ⟨rfl, hk3⟩ := hk2
    obtain ⟨t, ht⟩ := m_tgt hk3
    rcases st with _ | ⟨x | (_ | r), st⟩
    · exact (show False from h).elim
    · exact (show False from h).elim
    · change m_A _ _ _ _ _ _ (m_nx ((pc : Int) + off) ls st w) at h
      rw [m_nx_of ht] at h
      exact mv_ifnullN hx hb hd ht h
    · exact mv_ifnull hx hb hd h
  | ifnonnull off =>
    have hk2 : n = 3 ∧ 0 ≤ (pc : Int) + off := by simpa [m_lk] using hk
    obtain ⟨rfl, hk3⟩ := hk2
    obtain ⟨t, ht⟩ := m_tgt hk3
    rcases st with _ | ⟨x | (_ | r), st⟩
    · exact (show False from h).elim
    · exact (show False from h).elim
    · exact mv_ifnonnullN hx hb hd h
    · change m_A _ _ _ _ _ _ (m_nx ((pc : Int) + off) ls st w) at h
      rw [m_nx_of ht] at h
      exact mv_ifnonnull hx hb hd ht h
  | goto off =>
    have hk2 : n = 3 ∧ 0 ≤ (pc : Int) + off := by simpa [m_lk] using hk
    obtain ⟨rfl, hk3⟩ := hk2
    obtain ⟨t, ht⟩ := m_tgt hk3
    change m_A _ _ _ _ _ _ (m_nx ((pc : Int) + off) ls st w) at h
    rw [m_nx_of ht] at h
    exact mv_goto hx hb hd ht h
  | tableswitch df lo hig offs =>
    rcases st with _ | ⟨x | r, st⟩
    · exact (show False from h).elim
    · change m_A _ _ _ _ _ _ (if x.toInt < lo ∨ hig < x.toInt then m_nx ((pc : Int) + df) ls st w else match offs[(x.toInt - lo).toNat]? with | some off => m_nx ((pc : Int) + off) ls st w | none => none) at h
      split at h
      · rename_i hc
        obtain ⟨t, ht, h⟩ := m_nx_inv h
        exact mv_tableOut hx hb hd hc ht h
      · rename_i hc
        split at h
        · rename_i off ho
          obtain ⟨t, ht, h⟩ := m_nx_inv h
          exact mv_tableIn hx hb hd hc ho ht h
        · exact h.elim
    · exact (show False from h).elim
  | lookupswitch df ps =>
    rcases st with _ | ⟨x | r, st⟩
    · exact (show False from h).elim
    · change m_A _ _ _ _ _ _ (if (ps.toList.zip (ps.toList.drop 1)).all (fun q => decide (q.1.1 < q.2.1)) = true then m_nx ((pc : Int) + Op.lookupswitch.offset ps.toList df x.toInt) ls st w else none) at h
      split at h
      · rename_i hp
        obtain ⟨t, ht, h⟩ := m_nx_inv h
        exact mv_lookup hx hb hd hp ht h
      · exact h.elim
    · exact (show False from h).elim
  | getfield idx =>
    obtain rfl : n = 3 := by simpa [m_lk] using hk
    change m_A _ _ _ _ _ _ (m_gf (m_fl me idx) (pc + 3) ls st w) at h
    unfold m_gf at h
    split at h
    · rename_i ci j k st' hfl
      split at h
      · rename_i hk1
        obtain ⟨C, T, N, ty, hF, hj, hlk⟩ := m_fl_ok hfl
        exact mv_gf hx hb ok hown hK hF hj (m_lf_of ok hN hlk) hk1 hd h
      · exact h.elim
    · exact h.elim
  | putfield idx =>
    obtain rfl : n = 3 := by simpa [m_lk] using hk
    change m_A _ _ _ _ _ _ (m_pf (m_fp me idx) (pc + 3) ls st w) at h
    unfold m_pf at h
    split at h
    · rename_i ci j x k st' hfl
      split at h
      · rename_i hk1
        obtain ⟨hk1, hty⟩ := hk1
        obtain ⟨C, T, N, ty, hF, hj, hlk, hfin⟩ := m_fp_ok hfl
        have hfk := hF.2.2.2.2.2 j hj
        refine mv_pf hx hb ok hown hK hF hj (m_lf_of ok hN hlk) (m_fin_of ok hinit hfin) hk1 hd (v := .inl x) (w' := (w.1, m_si w.2.1 k j x, w.2.2)) rfl (fun a ha => ⟨m_si_row ha, rfl⟩) (fun i hi => ?_) ?_ ?_ h
        · by_cases hij : i = j
          · subst hij
            have hne : ¬ m_ft ci i = 2 := by omega
            unfold m_ld
            rw [if_neg hne, if_pos rfl]
            simp [m_si]
          · unfold m_ld
            simp [m_si, hij]
        · rcases hty with h0 | ⟨h0, h01⟩
          · rw [h0] at hfk
            generalize ty j = t9 at hfk ⊢
            cases t9 <;> first | rfl | (simp [m_fk] at hfk; done)
          · rw [h0] at hfk
            generalize ty j = t9 at hfk ⊢
            cases t9 <;> first | (rcases h01 with rfl | rfl <;> rfl) | (simp [m_fk] at hfk; done)
        · rcases hty with h0 | ⟨h0, h01⟩
          · rw [h0] at hfk
            generalize ty j = t9 at hfk ⊢
            cases t9 <;> first | rfl | (simp [m_fk] at hfk; done)
          · rw [h0] at hfk
            generalize ty j = t9 at hfk ⊢
            cases t9 <;> first | (rcases h01 with rfl | rfl <;> rfl) | (simp [m_fk] at hfk; done)
      · exact h.elim
    · rename_i ci j r k st' hfl
      split at h
      · rename_i hk1
        obtain ⟨hk1, hty⟩ := hk1
        obtain ⟨C, T, N, ty, hF, hj, hlk, hfin⟩ := m_fp_ok hfl
        have hfk := hF.2.2.2.2.2 j hj
        rw [hty] at hfk
        refine mv_pf hx hb ok hown hK hF hj (m_lf_of ok hN hlk) (m_fin_of ok hinit hfin) hk1 hd (v := .inr r) (w' := (w.1, w.2.1, m_sr w.2.2 k j r)) rfl (fun a ha => ⟨rfl, m_sr_row ha⟩) (fun i hi => ?_) ?_ ?_ h
        · by_cases hij : i = j
          · subst hij
            unfold m_ld
            rw [if_pos hty, if_pos rfl]
            simp [m_sr]
          · unfold m_ld
            simp [m_sr, hij]
        · generalize ty j = t9 at hfk ⊢
          cases t9 <;> first | (cases r <;> rfl) | (simp [m_fk] at hfk; done)
        · generalize ty j = t9 at hfk ⊢
          cases t9 <;> first | (cases r <;> rfl) | (simp [m_fk] at hfk; done)
      · exact h.elim
    · exact h.elim
  | iaload =>
    obtain rfl : n = 1 := by simpa [m_lk] using hk
    change m_A _ _ _ _ _ _ (m_xi (pc + 1) ls st w) at h
    unfold m_xi at h
    split at h
    · rename_i i k st'
      split at h
      · rename_i t9 n9 hk1
        split at h
        · rename_i hc
          obtain ⟨rfl, hc⟩ := hc
          exact mv_xi hx hb hK hk1 hc hd h
        · exact h.elim
      · split at h
        · rename_i hc
          obtain ⟨rfl, hc⟩ := hc
          exact mv_xs hx hb hc hd h
        · exact h.elim
    · exact h.elim
  | baload =>
    obtain rfl : n = 1 := by simpa [m_lk] using hk
    change m_A _ _ _ _ _ _ (m_xb (pc + 1) ls st w) at h
    unfold m_xb at h
    split at h
    · rename_i i k st'
      split at h
      · rename_i t9 n9 hk1
        split at h
        · rename_i hc
          obtain ⟨rfl, hc⟩ := hc
          exact mv_xb hx hb hK hk1 hc hd h
        · exact h.elim
      · exact h.elim
    · exact h.elim
  | aaload =>
    obtain rfl : n = 1 := by simpa [m_lk] using hk
    change m_A _ _ _ _ _ _ (m_xa (pc + 1) ls st w) at h
    unfold m_xa at h
    split at h
    · rename_i i k st'
      split at h
      · rename_i t9 n9 hk1
        split at h
        · rename_i hc
          exact mv_xa hx hb hK hc.1 hk1 hc.2 hd h
        · exact h.elim
      · exact h.elim
    · exact h.elim
  | iastore =>
    obtain rfl : n = 1 := by simpa [m_lk] using hk
    change m_A _ _ _ _ _ _ (m_yi (pc + 1) ls st w) at h
    unfold m_yi at h
    split at h
    · rename_i x i k st'
      split at h
      · rename_i t9 n9 hk1
        split at h
        · rename_i hc
          obtain ⟨rfl, hc⟩ := hc
          exact mv_yi hx hb hK hk1 hc hd h
        · exact h.elim
      · exact h.elim
    · exact h.elim
  | bastore =>
    obtain rfl : n = 1 := by simpa [m_lk] using hk
    change m_A _ _ _ _ _ _ (m_yb (pc + 1) ls st w) at h
    unfold m_yb at h
    split at h
    · rename_i x i k st'
      split at h
      · rename_i t9 n9 hk1
        split at h
        · rename_i hc
          obtain ⟨⟨rfl, h01⟩, hc⟩ := hc
          exact mv_yb hx hb hK hk1 h01 hc hd h
        · exact h.elim
      · exact h.elim
    · exact h.elim
  | aastore =>
    obtain rfl : n = 1 := by simpa [m_lk] using hk
    change m_A _ _ _ _ _ _ (m_ya (pc + 1) ls st w) at h
    unfold m_ya at h
    split at h
    · rename_i v i k st'
      split at h
      · rename_i t9 n9 hk1
        split at h
        · rename_i hc
          obtain ⟨⟨ht, hv⟩, hc⟩ := hc
          obtain ⟨T, N, ty, hF⟩ := m_ak_ok ht
          exact mv_ya hx hb hK (t9 - 1) (by rcases ht with rfl | rfl <;> rfl) ht hF hk1 hv hc hd h
        · exact h.elim
      · exact h.elim
    · exact h.elim
  | arraylength =>
    obtain rfl : n = 1 := by simpa [m_lk] using hk
    change m_A _ _ _ _ _ _ (m_al (pc + 1) ls st w) at h
    unfold m_al at h
    split at h
    · rename_i k st'
      split at h
      · rename_i t9 n9 hk1
        split at h
        · rename_i hc
          exact mv_al hx hb hK hc hk1 hd h
        · exact h.elim
      · split at h
        · rename_i hc
          subst hc
          exact mv_as hx hb hd h
        · exact h.elim
    · exact h.elim
  | new idx =>
    obtain rfl : n = 3 := by simpa [m_lk] using hk
    change m_A _ _ _ _ _ _ (match m_cl me idx with | some ci => m_mk me N0 S0 (0, ci) (pc + 3) ls st w | none => none) at h
    split at h
    · rename_i ci hci
      unfold m_mk at h
      split at h
      · rename_i hc
        obtain ⟨C, T, N, ty, hF, k1, k2, k3⟩ := m_cl_ok hci
        exact mv_new hx hb ok hown hK hF (ok _ k1) (ok _ k2) (ok _ k3) (by omega) (by omega) hc.2.2 hd h
      · exact h.elim
    · exact h.elim
  | newarray at9 =>
    obtain rfl : n = 2 := by simpa [m_lk] using hk
    cases at9 with
    | int =>
      change m_A _ _ _ _ _ _ (m_ma me N0 S0 1 (pc + 2) ls st w) at h
      unfold m_ma at h
      split at h
      · split at h
        · rename_i hc
          unfold m_mk at h
          split at h
          · rename_i hc2
            exact mv_newa hx hb rfl (Or.inl ⟨rfl, rfl, rfl⟩) (ok _ m_wi) hK hc.2.1 hc.2.2 (by omega) (by omega) hc2.2.2 hd h
          · exact h.elim
        · exact h.elim
      · exact h.elim
    | boolean =>
      change m_A _ _ _ _ _ _ (m_ma me N0 S0 2 (pc + 2) ls st w) at h
      unfold m_ma at h
      split at h
      · split at h
        · rename_i hc
          unfold m_mk at h
          split at h
          · rename_i hc2
            exact mv_newa hx hb rfl (Or.inr ⟨rfl, rfl, rfl⟩) (ok _ m_wz) hK hc.2.1 hc.2.2 (by omega) (by omega) hc2.2.2 hd h
          · exact h.elim
        · exact h.elim
      · exact h.elim
    | _ => exact (show False from h).elim
  | anewarray idx =>
    obtain rfl : n = 3 := by simpa [m_lk] using hk
    change m_A _ _ _ _ _ _ (match m_ca me idx with | some t => m_ma me N0 S0 t (pc + 3) ls st w | none => none) at h
    split at h
    · rename_i t9 hci
      unfold m_ma at h
      split at h
      · split at h
        · rename_i hc
          unfold m_mk at h
          split at h
          · rename_i hc2
            obtain ⟨ht, k1, k2⟩ := m_ca_ok hci
            exact mv_newq hx hb (t0 := t9 - 1) hown (ok _ k1) (m_ao_of hN k2) ht (by rcases ht with rfl | rfl <;> rfl) hK hc.2.1 hc.2.2 (by omega) (by omega) hc2.2.2 hd h
          · exact h.elim
        · exact h.elim
      · exact h.elim
    · exact h.elim
  | invokevirtual idx =>
    obtain rfl : n = 3 := by simpa [m_lk] using hk
    change m_A _ _ _ _ _ _ (match m_ml me idx with | some y => m_cr me N0 S0 y 1 st w | none => none) at h
    split at h
    · rename_i y hy
      unfold m_cr at h
      split at h
      · rename_i b rest hst
        split at h
        · rename_i hc
          obtain ⟨⟨c1, c2, c3, c4⟩, c5, c6⟩ := hc
          obtain ⟨hfy, hlk⟩ := m_ml_ok hy (by rintro rfl; exact absurd c2 (by decide))
          exact mv_cr hx hb hml ok hR1 hR2 hR3 hR4 hown hK hN hfy (m_lm_of ok hN hlk) (Or.inl ⟨rfl, hd⟩) hst c1 c2 c3 c4 c5 c6 (IH _ _ _ _ h)
        · exact h.elim
      · exact h.elim
    · exact h.elim
  | invokespecial idx =>
    obtain rfl : n = 3 := by simpa [m_lk] using hk
    change m_A _ _ _ _ _ _ (match m_ml me idx with | some y => if y = 0 then m_so (pc + 3) ls st w else m_cr me N0 S0 y 2 st w | none => none) at h
    split at h
    · rename_i y hy
      split at h
      · rename_i hy0
        subst hy0
        unfold m_so at h
        split at h
        · rename_i b st'
          split at h
          · rename_i hc
            obtain ⟨k1, k2, k3⟩ := m_oi_ok hy
            exact mv_oi hx hb hml (by omega) (by omega) hown (ok _ k1) (ok _ k2) (ok _ k3) hc hd h
          · exact h.elim
        · exact h.elim
      · rename_i hy0
        unfold m_cr at h
        split at h
        · rename_i b rest hst
          split at h
          · rename_i hc
            obtain ⟨⟨c1, c2, c3, c4⟩, c5, c6⟩ := hc
            obtain ⟨hfy, hlk⟩ := m_ml_ok hy hy0
            exact mv_cr hx hb hml ok hR1 hR2 hR3 hR4 hown hK hN hfy (m_lm_of ok hN hlk) (Or.inr ⟨rfl, hd⟩) hst c1 c2 c3 c4 c5 c6 (IH _ _ _ _ h)
          · exact h.elim
        · exact h.elim
    · exact h.elim
  | invokestatic idx =>
    obtain rfl : n = 3 := by simpa [m_lk] using hk
    change m_A _ _ _ _ _ _ (match m_ml me idx with | some y => m_cs me N0 S0 y st w | none => none) at h
    split at h
    · rename_i y hy
      unfold m_cs at h
      split at h
      · rename_i hc
        obtain ⟨⟨c1, c2, c3⟩, c5, c6⟩ := hc
        obtain ⟨hfy, hlk⟩ := m_ml_ok hy (by rintro rfl; exact absurd c2 (by decide))
        exact mv_cs hx hb hml ok hR1 hR2 hR3 hR4 hown hK hN hfy (m_lm_of ok hN hlk) hd c1 c2 c3 c5 c6 (IH _ _ _ _ h)
      · exact h.elim
    · exact h.elim
  | ireturn =>
    obtain rfl : n = 1 := by simpa [m_lk] using hk
    change m_A _ _ _ _ _ _ (m_ri me N0 S0 st w) at h
    unfold m_ri at h
    split at h
    · rename_i x
      split at h
      · rename_i hc
        exact hri pc ls x w hd hc.1 hc.2.1 hc.2.2 h
      · exact h.elim
    · exact h.elim
  | return_ =>
    obtain rfl : n = 1 := by simpa [m_lk] using hk
    change m_A _ _ _ _ _ _ (m_rv me N0 S0 st w) at h
    unfold m_rv at h
    split at h
    · split at h
      · rename_i hc
        exact hrv pc ls w hd hc.1 hc.2.1 hc.2.2 h
      · exact h.elim
    · exact h.elim
  | _ => exact (show False from h).elim
theorem m_reti {D : va_G} {cA : Nat → ClassId} {base bS L : Nat} {p : Program} {l : Launch} {e : Env} {R : Room} {s : State} {m : MethodId} {args : Array Value} {below : List Frame} {meth : Method} {c : Code} {me nL : Nat} {w0 : mW} {Q : mQ} (hx : p.tables.exec = Jvm.exec) (hb : c.code = m_by me) (hr : meth.sig.returnType = m_rf me) (hlocks : meth.locks = false) (pc : Nat) (ls : mL) (x : Int32) (w : mW) (hd : decode (m_by me) pc = .ok (.ireturn, 1)) (hrt : m_rt me = 1 ∨ (m_rt me = 2 ∧ (x = 0 ∨ x = 1))) (e1 : w.1.length = w0.1.length + (m_bg me).1) (e2 : m_sl w.1 = m_sl w0.1 + (m_bg me).2) (h : Q (some (.inl x)) w) : m_V D cA base bS L p l e R s m args below meth c nL w0.1.length (m_sl w0.1) (MQ below (m_Qc D cA base bS L me w0 Q) args s (m_bg me).1 (m_bg me).2 (fun q => base ≤ q)) pc ls [.inl x] w := by
  intro h1 h2 h3 H locs lsA hl hh hS
  have hne : ¬ m_rt me = 0 := by rcases hrt with q | ⟨q, -⟩ <;> omega
  have hq : ∀ t : State, t.heap = H → s.WarmedH t.vm → m_Qc D cA base bS L me w0 Q args s (.returned (some (.int x))) t := by
    intro t ht hW
    rw [show m_Qc D cA base bS L me w0 Q = va_Qi (fun (r : Int32) (u : mW) => Q (some (.inl r)) u) (m_B D cA base bS L me w0) (fun q => base ≤ q) from if_neg hne]
    exact ⟨⟨x, w, rfl, h, by rw [ht]; exact hh.moved hW.alike, e1, e2⟩, hS.F ht⟩
  refine W.cs (cells' := (m_bg me).1) (slots' := (m_bg me).2) (by omega) (by omega) ?_
  rcases hrt with h4 | ⟨h4, h5⟩
  · exact W.iret hx hb (hr.trans (m_rf1 h4)) hq hS.2.2 hd
  · exact W.zret hx hb (hr.trans (m_rf2 h4)) (by rcases h5 with rfl | rfl <;> rfl) hq hS.2.2 hd
theorem m_retv {D : va_G} {cA : Nat → ClassId} {base bS L : Nat} {p : Program} {l : Launch} {e : Env} {R : Room} {s : State} {m : MethodId} {args : Array Value} {below : List Frame} {meth : Method} {c : Code} {me nL : Nat} {w0 : mW} {Q : mQ} (hx : p.tables.exec = Jvm.exec) (hb : c.code = m_by me) (hr : meth.sig.returnType = m_rf me) (hlocks : meth.locks = false) (pc : Nat) (ls : mL) (w : mW) (hd : decode (m_by me) pc = .ok (.return_, 1)) (hrt : m_rt me = 0) (e1 : w.1.length = w0.1.length + (m_bg me).1) (e2 : m_sl w.1 = m_sl w0.1 + (m_bg me).2) (h : Q none w) : m_V D cA base bS L p l e R s m args below meth c nL w0.1.length (m_sl w0.1) (MQ below (m_Qc D cA base bS L me w0 Q) args s (m_bg me).1 (m_bg me).2 (fun q => base ≤ q)) pc ls [] w := by
  intro h1 h2 h3 H locs lsA hl hh hS
  have hq : ∀ t : State, t.heap = H → s.WarmedH t.vm → m_Qc D cA base bS L me w0 Q args s (.returned none) t := by
    intro t ht hW
    rw [show m_Qc D cA base bS L me w0 Q = va_Qv (fun u : mW => Q none u) (m_B D cA base bS L me w0) (fun q => base ≤ q) from if_pos hrt]
    exact ⟨⟨w, rfl, h, by rw [ht]; exact hh.moved hW.alike, e1, e2⟩, hS.F ht⟩
  refine W.cs (cells' := (m_bg me).1) (slots' := (m_bg me).2) (by omega) (by omega) ?_
  exact W.vret hx hb (hr.trans (m_rf0 hrt)) hq hS.2.2 hd
theorem m_sound {l : Launch} {D : va_G} {cA : Nat → ClassId} {base bS L : Nat} (hprim : ∀ d as w Q, 2 ≤ d → m_pK as w Q → m_M l D cA base bS L (d + 1) 1 as w Q) : ∀ (d y : Nat) (as : List mV) (w : mW) (Q : mQ), m_E d y as w Q → m_M l D cA base bS L d y as w Q
  | 0, _, _, _, _, h => h.elim
  | d + 1, y, as, w, Q, h => by
    unfold m_E at h
    split at h
    · rename_i hy
      subst hy
      exact hprim d as w Q h.1 h.2
    split at h
    · rename_i hlen
      refine Met.ofW (cc := m_by y) (maxL := m_mx y) (ret := m_rf y) (m_pl y) rfl ?_
      intro p e s m args below meth c s₁ B hml hv
      obtain ⟨rfl, hh, hK, hN⟩ := hv
      have hts := atoms_spec (ws := m_ws y) B.pre
      have hown : s.vm.findClass (m_on y) = some m.cls := findClass_of_methodNamed B.named
      have hinit : (m_mn y).name = "<init>" → meth.name = "<init>" := fun hn => (name_of_methodNamed B.named B.method).1.trans hn
      obtain ⟨hl1, hl2⟩ := m_lh.entry (ad := m_ad base bS) as hlen
      have hl := lv_entry (as.map (m_tv (m_ad base bS))) (n := m_mx y) hl1
      rw [lg_entry_eq]
      have hV := h (fun pc ls st w' => m_V D cA base bS L p l e (m_rm (d + 1) y) s m ((as.map (m_tv (m_ad base bS))).toArray) below meth c (m_mx y) w.1.length (m_sl w.1) (MQ below (m_Qc D cA base bS L y w Q) ((as.map (m_tv (m_ad base bS))).toArray) s (m_bg y).1 (m_bg y).2 (fun q => base ≤ q)) pc ls st w') (m_close (m_sound hprim d) (Nat.le_refl _) (Nat.le_refl _) (Nat.le_refl _) (Nat.le_refl _) B.exec B.bytes hml (fun x hx => hts x (List.mem_cons_of_mem _ hx)) hown hinit hK hN (m_reti B.exec B.bytes B.returns B.notSynchronized) (m_retv B.exec B.bytes B.returns B.notSynchronized))
      have hW := hV (by rw [List.length_append, List.length_map, List.length_replicate]; omega) (Nat.le_refl _) (Nat.le_refl _) s.heap [] _ (hl2 _ hl) hh va_S.rf
      rw [Nat.sub_self, Nat.sub_self] at hW
      exact hW
    · exact h.elim
end
section
/-! The start: the tables, the static table, the law's entry as a state of the small machine -/
set_option maxHeartbeats 4000000 in
set_option maxRecDepth 100000 in
theorem m_K {s : State} {args : Array Value} (hts : ∀ w ∈ lw_tbl, w.before args s = true) : ∃ (D : va_G) (cA : Nat → ClassId), va_K D mCl (m_ty cA) s := by
  have ok : ∀ x ∈ m_W0, x.before args s = true := fun x hx => hts x (List.mem_filter.mp hx).1
  obtain ⟨c0, i0, k0⟩ := u_known (T := mT0) (N := 8) (C := "PropagationDesk") ok m_ff0.2.2.1 (ok (Cond.instantiable "PropagationDesk" 8) (m_w 57 (by decide +kernel) (by decide +kernel)))
  obtain ⟨c1, i1, k1⟩ := u_known (T := mT1) (N := 2) (C := "PropagationDesk$Kinds") ok m_ff1.2.2.1 (ok (Cond.instantiable "PropagationDesk$Kinds" 2) (m_w 65 (by decide +kernel) (by decide +kernel)))
  obtain ⟨c2, i2, k2⟩ := u_known (T := mT2) (N := 8) (C := "PropagationDesk$Plan") ok m_ff2.2.2.1 (ok (Cond.instantiable "PropagationDesk$Plan" 8) (m_w 101 (by decide +kernel) (by decide +kernel)))
  obtain ⟨c3, i3, k3⟩ := u_known (T := mT3) (N := 8) (C := "PropagationDesk$Transaction") ok m_ff3.2.2.1 (ok (Cond.instantiable "PropagationDesk$Transaction" 8) (m_w 142 (by decide +kernel) (by decide +kernel)))
  obtain ⟨c4, i4, k4⟩ := u_known (T := mT4) (N := 8) (C := "PropagationDesk$Frame") ok m_ff4.2.2.1 (ok (Cond.instantiable "PropagationDesk$Frame" 8) (m_w 136 (by decide +kernel) (by decide +kernel)))
  obtain ⟨c5, i5, k5⟩ := u_known (T := mT5) (N := 3) (C := "PropagationDesk$Journal") ok m_ff5.2.2.1 (ok (Cond.instantiable "PropagationDesk$Journal" 3) (m_w 213 (by decide +kernel) (by decide +kernel)))
  obtain ⟨c6, i6, k6⟩ := u_known (T := mT6) (N := 37) (C := "PropagationDeskModel") ok m_ff6.2.2.1 (ok (Cond.instantiable "PropagationDeskModel" 37) (m_w 479 (by decide +kernel) (by decide +kernel)))
  obtain ⟨ci, ki, pi, a1, a2, a3⟩ := Cond.arrayClass_spec (ok _ m_wi)
  obtain ⟨cz, kz, pz, b1, b2, b3⟩ := Cond.arrayClass_spec (ok _ m_wz)
  obtain ⟨qp, cp, kp, dp1, -, dp3, dp4, dp5⟩ := Cond.arrayOver_spec (n := "PropagationDesk$Plan") (hts (Cond.arrayOver (.object "PropagationDesk$Plan")) (List.mem_of_getElem? (i := 98) (by decide +kernel)))
  obtain ⟨qf, cf, kf, df1, -, df3, df4, df5⟩ := Cond.arrayOver_spec (n := "PropagationDesk$Frame") (hts (Cond.arrayOver (.object "PropagationDesk$Frame")) (List.mem_of_getElem? (i := 100) (by decide +kernel)))
  refine ⟨(fun c => [c0, c1, c2, c3, c4, c5, c6].getD c 0, fun c => [i0, i1, i2, i3, i4, i5, i6].getD c (fun _ => 0)), fun t => [0, ci, cz, cp, cf].getD t 0, fun c q hq => ?_, fun k q hk => ?_⟩
  · match c with
    | 0 =>
      have hq : some ("PropagationDesk", mT0, 8) = some q := hq
      cases hq
      exact k0
    | 1 =>
      have hq : some ("PropagationDesk$Kinds", mT1, 2) = some q := hq
      cases hq
      exact k1
    | 2 =>
      have hq : some ("PropagationDesk$Plan", mT2, 8) = some q := hq
      cases hq
      exact k2
    | 3 =>
      have hq : some ("PropagationDesk$Transaction", mT3, 8) = some q := hq
      cases hq
      exact k3
    | 4 =>
      have hq : some ("PropagationDesk$Frame", mT4, 8) = some q := hq
      cases hq
      exact k4
    | 5 =>
      have hq : some ("PropagationDesk$Journal", mT5, 3) = some q := hq
      cases hq
      exact k5
    | 6 =>
      have hq : some ("PropagationDeskModel", mT6, 37) = some q := hq
      cases hq
      exact k6
    | c + 7 =>
      exfalso
      rw [List.getElem?_eq_none (by simp only [List.length_cons, List.length_nil]; omega)] at hq
      cases hq
  · match k with
    | 0 =>
      have hk : some (ci, FieldType.int) = some q := hk
      cases hk
      exact ⟨fun n z => ⟨(fun k h => by cases h), ki, a2, pi, a3⟩, a1⟩
    | 1 =>
      have hk : some (cz, FieldType.boolean) = some q := hk
      cases hk
      exact ⟨fun n z => ⟨(fun k h => by cases h), kz, b2, pz, b3⟩, b1⟩
    | 2 =>
      have hk : some (cp, FieldType.object "PropagationDesk$Plan") = some q := hk
      cases hk
      exact ⟨fun n z => ⟨(fun k h => by cases h), kp, dp3, qp, dp4⟩, kp, qp, dp3, dp4, dp1, dp5⟩
    | 3 =>
      have hk : some (cf, FieldType.object "PropagationDesk$Frame") = some q := hk
      cases hk
      exact ⟨fun n z => ⟨(fun k h => by cases h), kf, df3, qf, df4⟩, kf, qf, df3, df4, df1, df5⟩
    | k + 4 =>
      exfalso
      rw [List.getElem?_eq_none (by simp only [List.length_cons, List.length_nil]; omega)] at hk
      cases hk
theorem m_ne_of {s : State} {args : Array Value} (hts : ∀ w ∈ lw_tbl, w.before args s = true) : m_ne s := by
  intro x hx hm
  have h := hts x hx
  unfold m_mv at hm
  split at hm
  · exact va_Nw.of rfl h
  · exact va_Nw.of rfl h
  · exact va_AO.of h
  · cases hm
abbrev m_fpt : Term := .static "PropagationDesk" "FIRST_PARENTS" "[I"
set_option maxHeartbeats 4000000 in
set_option maxRecDepth 100000 in
theorem m_sp_of {s : State} {b : Nat} (hts : ∀ w ∈ lw_tbl, w.before #[Value.ref b] s = true) (hgv : (Jvm.Cond.and given_1 narrow_1).before #[Value.ref b] s = true) : m_sp s.heap.size s s.heap := by
  have hs := flat_of_before _ hgv
  have hlen := va_eqt (hs (Cond.eq (.length m_fpt) (.int 10)) (by decide +kernel))
  have hel : ∀ j : Nat, j < 10 → (Term.elem m_fpt (.int (Int32.ofNat j))).eval #[Value.ref b] s none [] s = some (m_fpv j) := by
    intro j hj
    match j, hj with
    | 0, _ => exact va_eqt (hs (Cond.eq (.elem m_fpt (.int 0)) (.int (-1))) (by decide +kernel))
    | 1, _ => exact va_eqt (hs (Cond.eq (.elem m_fpt (.int 1)) (.int 0)) (by decide +kernel))
    | 2, _ => exact va_eqt (hs (Cond.eq (.elem m_fpt (.int 2)) (.int 0)) (by decide +kernel))
    | 3, _ => exact va_eqt (hs (Cond.eq (.elem m_fpt (.int 3)) (.int 2)) (by decide +kernel))
    | 4, _ => exact va_eqt (hs (Cond.eq (.elem m_fpt (.int 4)) (.int 3)) (by decide +kernel))
    | 5, _ => exact va_eqt (hs (Cond.eq (.elem m_fpt (.int 5)) (.int 3)) (by decide +kernel))
    | 6, _ => exact va_eqt (hs (Cond.eq (.elem m_fpt (.int 6)) (.int 3)) (by decide +kernel))
    | 7, _ => exact va_eqt (hs (Cond.eq (.elem m_fpt (.int 7)) (.int 3)) (by decide +kernel))
    | 8, _ => exact va_eqt (hs (Cond.eq (.elem m_fpt (.int 8)) (.int 3)) (by decide +kernel))
    | 9, _ => exact va_eqt (hs (Cond.eq (.elem m_fpt (.int 9)) (.int 1)) (by decide +kernel))
    | j + 10, h => exact absurd h (by omega)
  obtain ⟨t, ht, hT⟩ := va_Tof (N := 10) (f := m_fpv) (A := fun q => s.heap.size ≤ q) (by decide) (hs (Cond.arrayOf m_fpt .int) (by decide +kernel)) hlen hel (fun a ha h => by omega)
  exact ⟨t, va_Zref (hts (Cond.laysStatic "PropagationDesk" "FIRST_PARENTS" "[I") (List.mem_of_getElem? (i := 71) (by decide +kernel))) (hts (Cond.initialized "PropagationDesk") (List.mem_of_getElem? (i := 46) (by decide +kernel))) ht (fun a ha h => by omega), hT⟩
/-- the script in the ints -/
def m_w0 (L : Nat) (xs : Nat → Int32) : Nat → Nat → Int32 := fun k j => if k = 1000000 then xs j else if k = 1000001 ∧ j = 0 then Int32.ofNat L else 0
/-- what is left to prove, of the small machine alone -/
def m_pure (L : Nat) (xs : Nat → Int32) : Prop := m_R (m_E 60) 101 0 0 (fun r _ => r = some (.inl 1)) 0 [some (.inr (some 1000000)), none, none, none] [] ([], m_w0 L xs, fun _ _ => none)
/-! THE CLAIM OUT OF ONE WALK OF THE LAW'S BODY. Your part is whole_start (and what it stands on); all else here is the same for every law, but numbers. -/
def R_law : String := "PropagationDeskLaw"
def lw_P (b : Addr) (xs : List Int32) (args : Array Value) (s : State) : Prop := args = #[.ref b] ∧ s.IntsAt b xs ∧ xs.length ≤ 2560 ∧ (Jvm.Cond.and given_1 narrow_1).before args s = true
def lw_Q (_ : Array Value) (s : State) (o : Outcome) (t : State) : Prop := o = .returned (some (.int 1)) ∧ Framed s o t [] 600000 7302250
def lw_Z (below : List Frame) (a : Array Value) (s : State) : State → Prop := fun t => ∃ o, t.status = .running ∧ Ended t below o ∧ lw_Q a s o t
/-- the law's own end, with 1 on the stack, nothing written that was there before, its room as the claim has it -/
theorem lw_ret {p : Program} {l : Launch} {e : Env} {s : State} {m : MethodId} {below : List Frame} {meth : Method} {c : Code} {b : Nat} (hx : p.tables.exec = Jvm.exec) (hb : c.code = code) (hr : meth.sig.returnType = ret) (hlocks : meth.locks = false) {pc : Nat} {H : Heap} {ls : Array Slot} (hdg : decode code pc = .ok (.ireturn, 1)) : W p l e room_1 s m #[Value.ref b] below meth c H [] 600000 7302250 (lw_Z below #[Value.ref b] s) (F0 m pc ls [.int 1]) := by
  intro T hT X
  obtain ⟨fs, hret, hrun, hended, hW, hframe⟩ := X.leave (v := some (.int 1)) (hlocks := hlocks) (fun h => by rw [hr] at h; cases h)
  have hmeth' : T.vm.method? m = some meth := X.method'
  refine ⟨T.setFrames fs, ?_, .returned (some (.int 1)), hrun, hended, rfl, ⟨_, rfl⟩, hW, hframe⟩
  jvm_step X.here [X.here.top, hx, hb, hdg, hmeth', hr, ret, narrow_b1]
  (try refine ⟨rfl, ?_⟩); (try refine ⟨rfl, ?_⟩)
  first | (intro acts; rw [hret _ acts rfl rfl rfl]) | rw [hret _ _ rfl rfl rfl]
  exact Steps.refl _
/-- what holds at the law's entry: the machine, the code, the tables' words (any of lw_tbl by 'hts w (by decide +kernel)'), the script of L ints xs at the cell b, what the Statement gives of the start (any of its parts by flat_of_before) -/
def lw_At (p : Program) (s : State) (m : MethodId) (meth : Method) (c : Code) (b L : Nat) (xs : Nat → Int32) : Prop :=
  p.tables.exec = Jvm.exec ∧ c.code = code ∧ meth.sig.returnType = ret ∧ c.maxLocals = 4 ∧ s.vm.findClass R_law = some m.cls ∧ (∀ w ∈ lw_tbl, w.before #[Value.ref b] s = true) ∧ va_X b L xs s s.heap ∧ b < s.heap.size ∧ meth.locks = false ∧ (Jvm.Cond.and given_1 narrow_1).before #[Value.ref b] s = true
set_option maxHeartbeats 4000000 in
set_option maxRecDepth 100000 in
theorem whole_start_open {p : Program} {e : Env} {s : State} {m : MethodId} {below : List Frame} {meth : Method} {c : Code} (l : Launch) {b L : Nat} {xs : Nat → Int32} (hL : L ≤ 2560) (C0 : lw_At p s m meth c b L xs)
    (hprim : ∀ (D : va_G) (cA : Nat → ClassId) (base bS L d : Nat) (as : List mV) (w : mW) (Q : mQ), 2 ≤ d → m_pK as w Q → m_M l D cA base bS L (d + 1) 1 as w Q) (hpure : m_pure L xs) : W p l e room_1 s m #[Value.ref b] below meth c s.heap [] 0 0 (lw_Z below #[Value.ref b] s) (entryFrame m ([Value.ref b] : List Value).toArray 4) := by
  obtain ⟨hx, hb, hr, hml, hown, hts, hX, hbl, hlocks, hgv⟩ := C0
  have ok : ∀ x ∈ m_W0, x.before #[Value.ref b] s = true := fun x hx => hts x (List.mem_filter.mp hx).1
  obtain ⟨D, cA, hK⟩ := m_K hts
  have hsp := m_sp_of hts hgv
  have hV := hpure (fun pc ls st w => m_V D cA s.heap.size b L p l e room_1 s m #[Value.ref b] below meth c (m_mx 101) 0 0 (lw_Z below #[Value.ref b] s) pc ls st w) (m_close (me := 101) (m_sound (hprim D cA s.heap.size b L) 60) (by decide) (by decide) (by decide) (by decide) hx hb hml ok hown (fun h => absurd h (by decide)) hK (m_ne_of hts) ?_ ?_)
  · have hw : va_X b L (m_w0 L xs 1000000) s s.heap := by
      have h1 : m_w0 L xs 1000000 = xs := funext fun j => if_pos rfl
      rw [h1]
      exact hX
    have hh : m_hd D cA s.heap.size b L s ([], m_w0 L xs, fun _ _ => none) s.heap := ⟨rfl, Nat.zero_le _, ⟨hbl, by omega, rfl, hw, hsp⟩, fun k h hk => by cases hk⟩
    obtain ⟨hl1, hl2⟩ := m_lh.entry (ad := m_ad s.heap.size b) (n := 4) [.inr (some 1000000)] (by decide)
    have hl := lv_entry ([Value.ref b]) (n := 4) (Nat.le_of_ble_eq_true rfl)
    rw [lg_entry_eq]
    exact hV rfl (Nat.le_refl _) (Nat.le_refl _) s.heap [] _ (hl2 _ hl) hh va_S.rf
  · intro pc ls x w hd hrt e1 e2 hq h1 h2 h3 H locs lsA hl hh hS
    cases hq
    refine va_forget (fun q hq => hS.2.2 q hq) ?_
    refine W.widen (k := 600000) (n := 7302250) ?_ ?_ ?_
    · have e1 : w.1.length = 201 := e1
      omega
    · have e2 : m_sl w.1 = 2390 := e2
      omega
    · exact lw_ret hx hb hr hlocks hd
  · intro pc ls w hd hrt
    exact absurd hrt (by decide)
end
section
/-! Kinds's constructor, walked by hand: Arrays.copyOf of the static table -/
def m_ycp : MethodName := ⟨"java/util/Arrays", "copyOf", "([II)[I"⟩
abbrev m_bcp : ByteArray := prog_12_method_123_code
theorem m_dcp0 : decode m_bcp 0 = .ok (.iload_n 1, 1) := by decide +kernel
theorem m_dcp1 : decode m_bcp 1 = .ok (.aload_n 0, 1) := by decide +kernel
theorem m_dcp2 : decode m_bcp 2 = .ok (.arraylength, 1) := by decide +kernel
theorem m_dcp3 : decode m_bcp 3 = .ok (.if_icmp .ne 11, 3) := by decide +kernel
theorem m_dcp14 : decode m_bcp 14 = .ok (.iload_n 1, 1) := by decide +kernel
theorem m_dcp15 : decode m_bcp 15 = .ok (.newarray .int, 2) := by decide +kernel
theorem m_dcp17 : decode m_bcp 17 = .ok (.astore_n 2, 1) := by decide +kernel
theorem m_dcp18 : decode m_bcp 18 = .ok (.aload_n 0, 1) := by decide +kernel
theorem m_dcp19 : decode m_bcp 19 = .ok (.iconst 0, 1) := by decide +kernel
theorem m_dcp20 : decode m_bcp 20 = .ok (.aload_n 2, 1) := by decide +kernel
theorem m_dcp21 : decode m_bcp 21 = .ok (.iconst 0, 1) := by decide +kernel
theorem m_dcp22 : decode m_bcp 22 = .ok (.aload_n 0, 1) := by decide +kernel
theorem m_dcp23 : decode m_bcp 23 = .ok (.arraylength, 1) := by decide +kernel
theorem m_dcp24 : decode m_bcp 24 = .ok (.iload_n 1, 1) := by decide +kernel
theorem m_dcp25 : decode m_bcp 25 = .ok (.invokestatic 304, 3) := by decide +kernel
theorem m_dcp28 : decode m_bcp 28 = .ok (.invokestatic 150, 3) := by decide +kernel
theorem m_dcp31 : decode m_bcp 31 = .ok (.aload_n 2, 1) := by decide +kernel
theorem m_dcp32 : decode m_bcp 32 = .ok (.areturn, 1) := by decide +kernel
theorem m_dk0 : decode (m_by 1) 0 = .ok (.aload_n 0, 1) := by decide +kernel
theorem m_dk1 : decode (m_by 1) 1 = .ok (.invokespecial 3, 3) := by decide +kernel
theorem m_dk4 : decode (m_by 1) 4 = .ok (.aload_n 0, 1) := by decide +kernel
theorem m_dk5 : decode (m_by 1) 5 = .ok (.getstatic 9, 3) := by decide +kernel
theorem m_dk8 : decode (m_by 1) 8 = .ok (.bipush 16, 2) := by decide +kernel
theorem m_dk10 : decode (m_by 1) 10 = .ok (.invokestatic 13, 3) := by decide +kernel
theorem m_dk13 : decode (m_by 1) 13 = .ok (.putfield 19, 3) := by decide +kernel
theorem m_dk16 : decode (m_by 1) 16 = .ok (.aload_n 0, 1) := by decide +kernel
theorem m_dk17 : decode (m_by 1) 17 = .ok (.getstatic 9, 3) := by decide +kernel
theorem m_dk20 : decode (m_by 1) 20 = .ok (.arraylength, 1) := by decide +kernel
theorem m_dk21 : decode (m_by 1) 21 = .ok (.putfield 24, 3) := by decide +kernel
theorem m_dk24 : decode (m_by 1) 24 = .ok (.return_, 1) := by decide +kernel
theorem m_hd.pushG {D : va_G} {cA : Nat → ClassId} {base bS L : Nat} {U : State} {w w' : mW} {H H1 : Heap} {h : Nat × Nat} (hh : m_hd D cA base bS L U w H) (hl : w.1.length < 1000000) (h1 : w'.1 = w.1 ++ [h]) (h2 : ∀ a, a ≠ w.1.length → w'.2.1 a = w.2.1 a ∧ w'.2.2 a = w.2.2 a) (hz : H1.size = H.size + 1) (ho : ∀ q, q < H.size → H1[q]? = H[q]?)
    (he : va_at D mCl (base + w.1.length, m_ce cA (m_ad base bS) w' w.1.length h) H1) : m_hd D cA base bS L U w' H1 := by
  obtain ⟨a1, a2, ⟨a3, a4, a5, a6, a8⟩, a7⟩ := hh
  have e1 := h2 1000000 (by omega)
  have e2 := h2 1000001 (by omega)
  have hlen : w'.1.length = w.1.length + 1 := by rw [h1, List.length_append]; rfl
  refine ⟨by rw [hz, a1, hlen]; omega, by omega, ⟨a3, a4, by rw [e2.1]; exact a5, by rw [e1.1]; exact a6.kept (ho bS (by omega)), a8.kept (fun a ha _ => ho a ha)⟩, fun k' h' hk' => ?_⟩
  rw [h1] at hk'
  by_cases hkk : k' < w.1.length
  · have hk2 : w.1[k']? = some h' := by rw [← hk']; exact (List.getElem?_append_left hkk).symm
    have h3 := a7 k' h' hk2
    rw [m_ce_congr (w' := w') (h2 k' (by omega)).1.symm (h2 k' (by omega)).2.symm] at h3
    exact h3.kept (ho _ (by show base + k' < H.size; omega))
  · rw [List.getElem?_append_right (by omega)] at hk'
    have hz : k' - w.1.length < 1 := (List.getElem?_eq_some_iff.mp hk').1
    have hke : k' = w.1.length := by omega
    subst hke
    rw [Nat.sub_self] at hk'
    cases hk'
    exact he
theorem m_copyT {p : Program} {l : Launch} {e : Env} {R : Room} {s : State} {m : MethodId} {args : Array Value} {below : List Frame} {meth : Method} {c : Code} {H : Heap} {locs : List Loc} {cells slots : Nat} {Q : State → Prop} {pc : Nat} {ls : Array Slot} {rest : List Value} {a : Nat} {cc : ByteArray} (hexec : p.tables.exec = Jvm.exec) (hb : c.code = cc) (hml : c.maxLocals = ls.size) {own : String} {index : Nat} (hown : s.vm.findClass own = some m.cls) (hlink : (Cond.methodLink own index arraycopyName).before args s = true) (hnat : (Cond.native arraycopyName).before args s = true) (hstat : (Cond.static arraycopyName).before args s = true) (hini : (Cond.initialized "java/lang/System").before args s = true)
    {b0 n0 : Nat} {f : Nat → Int32} {scr : Cell} (hc0 : H[b0]? = some scr) (hs2 : s.isArrayOf scr .int) (hs3 : scr.vm ≠ .unknown) (hs4 : n0 ≤ scr.slots.size) (hs5 : ∀ j : Nat, j < n0 → scr.slots[j]? = some (.int (f j))) {c1 : ClassId} {n1 : Nat} {g : Nat → Int32} (hc1 : H[a]? = some (arrV c1 n1 (fun j => .int (g j)))) (hA1 : ArrOfT s c1 .int)
    {sp dp n : Int32} (h1 : ¬ sp < 0) (h2 : ¬ dp < 0) (h3 : ¬ n < 0) (h4 : sp.toNatClampNeg + n.toNatClampNeg ≤ n0) (h5 : dp.toNatClampNeg + n.toNatClampNeg ≤ n1)
    (hframes : 1 ≤ R.frames) (hlocals : (rest.map fun v => v.category).sum + (nativeFrameWords "java/lang/System" "arraycopy" 5 + 11) ≤ R.locals) (hdg : decode cc pc = .ok (.invokestatic index, 3))
    (kk : ∀ (H1 : Heap) (L1 : List Loc), H1[a]? = some (arrV c1 n1 (fun j => .int (va_cpy f g sp.toNatClampNeg dp.toNatClampNeg n.toNatClampNeg j))) → H1.size = H.size → (∀ q, q ≠ a → H1[q]? = H[q]?) → (∀ q ∈ L1, q.base = a) → W p l e R s m args below meth c H1 (locs ++ L1) cells slots Q (F0 m (pc + 3) ls rest)) : W p l e R s m args below meth c H locs cells slots Q (F0 m pc ls (.int n :: .int dp :: .ref a :: .int sp :: .ref b0 :: rest)) := by
  have nn : ∀ z : Int32, ¬ z < 0 → z.toInt = (z.toNatClampNeg : Int) := by
    intro z hz
    have hz0 : (0 : Int) ≤ z.toInt := by
      have := Int32.not_lt.mp hz
      simpa using Int32.le_iff_toInt_le.mp this
    show z.toInt = ((z.toInt.toNat : Nat) : Int)
    omega
  intro T hT X
  obtain ⟨hs6, k0, hk0, cm0, hkk0⟩ := hs2
  obtain ⟨-, k1, hk1, cm1, hkk1⟩ := hA1 n1 (fun j => .int (g j))
  obtain ⟨vm', X', step⟩ := X.arraycopy hexec hown hlink hnat hstat hini (src := b0) (dst := a) (cs := scr) (cd := arrV c1 n1 (fun j => .int (g j))) (srcPos := sp) (destPos := dp) (n := n) (by rw [hT]; exact hc0) (by rw [hT]; exact hc1)
    hs6 (fun _ h => by cases h) hs3 (fun h => by cases h) hk0 hk1 hkk0 hkk1 (by simp [refKind]) h1 h2 h3
    (by rw [nn sp h1, nn n h3]; omega)
    (by rw [nn dp h2, nn n h3]; show ¬ _ > ((arrV c1 n1 (fun j => .int (g j))).slots.size : Int); rw [arrV_size]; omega)
    (fun vm₁ _ i hi => by
      have e : scr.slots.getD (sp.toNatClampNeg + i) .null = .int (f (sp.toNatClampNeg + i)) := by
        rw [Array.getD_eq_getD_getElem?, hs5 _ (by omega)]
        rfl
      refine ⟨?_, ?_⟩
      · rw [e]
        rfl
      · rw [e]
        exact trivial)
    (g := F0 m pc ls (.int n :: .int dp :: .ref a :: .int sp :: .ref b0 :: rest)) rfl (by rw [hml]) (rest := rest) rfl (by rw [hb]; exact hdg) hframes (by show 2 * 0 + _ + _ ≤ _; omega)
  have e1 : copied scr (arrV c1 n1 (fun j => .int (g j))) sp dp n = arrV c1 n1 (fun j => .int (va_cpy f g sp.toNatClampNeg dp.toNatClampNeg n.toNatClampNeg j)) := va_copiedX (fun z => .int z) scr c1 f g hs5 h4
  rw [e1] at X' step
  have hl : a < H.size := (Array.getElem?_eq_some_iff.mp hc1).1
  have hheap : ((T.setVm vm').setCell a (arrV c1 n1 (fun j => .int (va_cpy f g sp.toNatClampNeg dp.toNatClampNeg n.toNatClampNeg j)))).heap = H.setIfInBounds a (arrV c1 n1 (fun j => .int (va_cpy f g sp.toNatClampNeg dp.toNatClampNeg n.toNatClampNeg j))) := by rw [← hT]; rfl
  obtain ⟨t, a1, b1⟩ := kk _ _ (show (H.setIfInBounds a _)[a]? = some _ by simp [Array.getElem?_setIfInBounds, hl]) (by simp) (fun q hq => by simp [Array.getElem?_setIfInBounds, Ne.symm hq]) (fun q hq => by
      obtain ⟨z, -, hz⟩ := List.mem_map.mp hq
      rw [← hz]) _ hheap X'
  exact ⟨t, step t a1, b1⟩
abbrev m_wcp : List Cond := .code m_ycp m_bcp 3 (some (.array .int)) :: m_W0
set_option maxHeartbeats 4000000 in
set_option maxRecDepth 100000 in
/-- Arrays.copyOf(FIRST_PARENTS, 16) -/
theorem m_copyOf (l : Launch) (D : va_G) (cA : Nat → ClassId) (base t sz : Nat) : Met l m_ycp m_wcp ({ frames := 1, cells := 1, slots := 16, locals := 40 }) (va_Pc [.ref t, .int 16] (fun U => U.heap.size = sz ∧ base ≤ sz ∧ va_T .int t 10 m_fpv (fun q => base ≤ q) U U.heap ∧ va_K D mCl (m_ty cA) U)) (va_Qr (fun _ : Unit => True) (fun _ a tt => a = sz ∧ tt.heap.size = sz + 1 ∧ tt.heap[sz]? = some (arrV (cA 1) 16 (fun j => .int (m_fpi j)))) (fun q => sz ≤ q)) 1 16 (fun q => sz ≤ q) := by
  refine Met.ofW (cc := m_bcp) (maxL := 3) (ret := some (.array .int)) (by decide) rfl ?_
  intro p e s m args below meth c s₁ B hml hv
  obtain ⟨rfl, hsz, hbs, hT0, hK⟩ := hv
  have hx := B.exec
  have hb := B.bytes
  have hr := B.returns
  have hts := atoms_spec (ws := m_wcp) B.pre
  have ok : ∀ x ∈ m_W0, x.before _ s = true := fun x h => hts x (List.mem_cons_of_mem _ h)
  have hown : s.vm.findClass "java/util/Arrays" = some m.cls := findClass_of_methodNamed B.named
  have hlocks := B.notSynchronized
  subst hsz
  have hT : va_T .int t 10 m_fpv (fun q => s.heap.size ≤ q) s s.heap := hT0.narrow (fun q h => Nat.le_trans hbs h)
  have hS : va_S (fun q => s.heap.size ≤ q) s.heap s.heap [] := va_S.rf
  have hl := lv_entry ([.ref t, .int 16]) (n := 3) (Nat.le_of_ble_eq_true rfl)
  rw [lg_entry_eq]
  generalize (lg_sl ([.ref t, .int 16]) ++ List.replicate (3 - (lg_sl ([.ref t, .int 16])).length) Slot.unset).toArray = ls at hl ⊢
  have hl : lv_has ls 3 [(0, .ref t), (1, .int 16)] := hl
  refine lv_iload_n hx hb m_dcp0 rfl (lv_at hl 1 rfl) ?_
  refine lv_aload_n hx hb m_dcp1 rfl (lv_at hl 0 rfl) ?_
  refine va_tlen hx hb hT hS (v := 10) rfl m_dcp2 ?_
  refine lv_icmp_ne (tgt := 14) hx hb m_dcp3 rfl (fun _ => ?_) (fun h => absurd h (by decide))
  refine lv_iload_n hx hb m_dcp14 rfl (lv_at hl 1 rfl) ?_
  refine va_newaK hx hb (ok _ m_wi) rfl m_dcp15 rfl (by decide) (N := 16) rfl (by decide) (by decide) (by decide) rfl fun H1 cA' e1 z1 o1 hAr hNm => ?_
  have hca : cA' = cA 1 := by
    have h9 : s.vm.findClass ("[" ++ FieldType.int.toString) = some (cA 1) := (hK.2 0 _ rfl).2
    exact Option.some.inj (hNm.symm.trans h9)
  subst hca
  have hS1 : va_S (fun q => s.heap.size ≤ q) s.heap H1 [] := ⟨by omega, fun q g1 g2 => o1 q g1, fun q h => by cases h⟩
  refine lv_astore_n hx hb m_dcp17 rfl hl (by decide) rfl (fun ls hl => ?_)
  have hl : lv_has ls 3 [(2, .ref s.heap.size), (0, .ref t), (1, .int 16)] := hl
  refine lv_aload_n hx hb m_dcp18 rfl (lv_at hl 1 rfl) ?_
  refine lv_iconst (v := 0) hx hb m_dcp19 (by decide) ?_
  refine lv_aload_n hx hb m_dcp20 rfl (lv_at hl 0 rfl) ?_
  refine lv_iconst (v := 0) hx hb m_dcp21 (by decide) ?_
  refine lv_aload_n hx hb m_dcp22 rfl (lv_at hl 1 rfl) ?_
  refine va_tlen hx hb hT hS1 (v := 10) rfl m_dcp23 ?_
  refine lv_iload_n hx hb m_dcp24 rfl (lv_at hl 2 rfl) ?_
  refine va_mmin hx hb (hml.trans hl.1.symm) hown (ok _ (m_w 82 (by decide +kernel) (by decide +kernel))) (ok _ (m_w 83 (by decide +kernel) (by decide +kernel))) (ok _ (m_w 49 (by decide +kernel) (by decide +kernel))) (ok _ (m_w 84 rfl rfl)) (by decide) (Nat.le_of_ble_eq_true rfl) (by decide) (by decide) m_dcp25 ?_
  obtain ⟨scr, g1, g2, g3, g4, g5, g6, g7⟩ := hT
  have hc0 : H1[t]? = some scr := by rw [o1 t (Array.getElem?_eq_some_iff.mp g1).1]; exact g1
  have e1 : H1[s.heap.size]? = some (arrV (cA 1) 16 (fun j => .int ((fun _ => 0 : Nat → Int32) j))) := e1
  refine m_copyT (n0 := 10) (f := m_fpi) (g := fun _ => 0) hx hb (hml.trans hl.1.symm) hown (ok _ (m_w 85 (by decide +kernel) (by decide +kernel))) (ok _ (m_w 87 (by decide +kernel) (by decide +kernel))) (ok _ (m_w 86 (by decide +kernel) (by decide +kernel))) (ok _ (m_w 50 (by decide +kernel) (by decide +kernel))) hc0 g2 g3 g4 (fun j hj => g6 j hj) e1 hAr (by decide) (by decide) (by decide) (by decide) (by decide) (by decide) (by decide) m_dcp28 fun H2 L2 f1 z2 o2 hL2 => ?_
  refine lv_aload_n hx hb m_dcp31 rfl (lv_at hl 0 rfl) ?_
  refine W.aret hx hb hr (Or.inr ⟨_, rfl⟩) (Or.inr ⟨_, rfl⟩) (fun t' ht hW => ⟨⟨(), s.heap.size, rfl, trivial, rfl, by rw [ht, z2, z1], ?_⟩, by rw [ht, z2, z1]; omega, fun q q1 q2 => by rw [ht, o2 q (by omega), o1 q q1]⟩) (fun q hq => by
    rcases List.mem_append.mp hq with h | h
    · cases h
    · show s.heap.size ≤ q.base
      rw [hL2 q h]; exact Nat.le_refl _) m_dcp32
  rw [ht, f1]
  congr 2
  funext j
  show Value.int (va_cpy m_fpi (fun _ => 0) 0 0 10 j) = _
  unfold va_cpy
  by_cases hj : j < 10
  · rw [if_pos ⟨Nat.zero_le _, by omega⟩]; simp
  · rw [if_neg (by omega)]
    unfold m_fpi
    rw [List.getD_eq_getElem?_getD, List.getElem?_eq_none (by simp only [List.length_cons, List.length_nil]; omega)]
    rfl
set_option maxHeartbeats 4000000 in
set_option maxRecDepth 100000 in
/-- Kinds's constructor -/
theorem m_prim (l : Launch) (D : va_G) (cA : Nat → ClassId) (base bS L d : Nat) (as : List mV) (w : mW) (Q : mQ) (hd2 : 2 ≤ d) (h : m_pK as w Q) : m_M l D cA base bS L (d + 1) 1 as w Q := by
  unfold m_pK at h
  split at h
  rotate_left
  · exact h.elim
  rename_i k
  obtain ⟨hk, hlen, hQ⟩ := h
  refine Met.ofW (cc := m_by 1) (maxL := m_mx 1) (ret := m_rf 1) (m_pl 1) rfl ?_
  intro p e s m args below meth c s₁ B hml hv
  obtain ⟨rfl, hh, hK, hN⟩ := hv
  have hx := B.exec
  have hb := B.bytes
  have hts := atoms_spec (ws := m_ws 1) B.pre
  have ok : ∀ x ∈ m_W0, x.before _ s = true := fun x h => hts x (List.mem_cons_of_mem _ h)
  have hown : s.vm.findClass "PropagationDesk$Kinds" = some m.cls := findClass_of_methodNamed B.named
  have hin : meth.name = "<init>" := (name_of_methodNamed B.named B.method).1
  have hkl : k < w.1.length := (List.getElem?_eq_some_iff.mp hk).1
  have hnk : k ≠ w.1.length := by omega
  have e0 : m_ad base bS k = base + k := m_ad_lt (hh.lt hk)
  have e9 : m_ad base bS w.1.length = base + w.1.length := m_ad_lt hlen
  let w1 : mW := (w.1 ++ [(1, 16)], fun a b => if a = w.1.length then m_fpi b else w.2.1 a b, m_zr w.2.2 w.1.length)
  let w2 : mW := (w1.1, w1.2.1, m_sr w1.2.2 k 0 (some w.1.length))
  let w3 : mW := (w2.1, m_si w2.2.1 k 1 10, w2.2.2)
  have hk1 : w1.1[k]? = some (0, 1) := by show (w.1 ++ [(1, 16)])[k]? = _; rw [List.getElem?_append_left hkl]; exact hk
  have hl0 : w1.1.length = w.1.length + 1 := by show (w.1 ++ [(1, 16)]).length = _; rw [List.length_append]; rfl
  have hs0 : m_sl w1.1 = m_sl w.1 + 16 := m_sl_app w.1 (1, 16)
  let ls : mL := [some (.inr (some k))]
  let QQ := MQ below (m_Qc D cA base bS L 1 w Q) (([.inr (some k)] : List mV).map (m_tv (m_ad base bS))).toArray s (m_bg 1).1 (m_bg 1).2 (fun q => base ≤ q)
  let VV := m_V D cA base bS L p l e (m_rm (d + 1) 1) s m (([.inr (some k)] : List mV).map (m_tv (m_ad base bS))).toArray below meth c (m_mx 1) w.1.length (m_sl w.1) QQ
  have lk0 : (Cond.fieldLink "PropagationDesk$Kinds" 19 (mT1 0).1 (mT1 0).2.1 (mT1 0).2.2.1).before _ s = true := ok _ (m_w 88 (by decide +kernel) (by decide +kernel))
  have lk1 : (Cond.fieldLink "PropagationDesk$Kinds" 24 (mT1 1).1 (mT1 1).2.1 (mT1 1).2.2.1).before _ s = true := ok _ (m_w 89 (by decide +kernel) (by decide +kernel))
  have V24 : VV 24 ls [] w3 := m_retv hx hb B.returns B.notSynchronized 24 ls w3 m_dk24 rfl hl0 hs0 hQ
  have V21 : VV 21 ls [.inl 10, .inr (some k)] w2 := mv_pf (w := w2) (j := 1) hx hb ok hown hK m_ff1 (by decide) (Or.inl lk1) (Or.inl rfl) hk1 m_dk21 (v := .inl 10) (w' := w3) rfl (fun a ha => ⟨m_si_row ha, rfl⟩) (fun i hi => by
    match i, hi with
    | 0, _ => rfl
    | 1, _ => show Sum.inl (m_si w2.2.1 k 1 10 k 1) = _; simp [m_si]
    | i + 2, h => exact absurd h (by omega)) rfl rfl V24
  have hnest : va_Nw (.fieldLinkNest "PropagationDesk$Kinds" 9 "PropagationDesk" "FIRST_PARENTS" "[I" "PropagationDesk") s := hN _ (List.mem_of_getElem? (i := 70) (by decide +kernel)) rfl
  obtain ⟨t, hZ, hT⟩ := hh.2.2.1.2.2.2.2
  have V16 : VV 16 ls [] w2 := by
    intro h1 h2 h3 H locs lsA hl hh2 hS
    refine lv_aload_n (x := m_ad base bS k) hx hb m_dk16 rfl (hl.2 0 (.inr (some k)) rfl) ?_
    refine va_getsN hx hb hZ hS hown (va_Nw.use rfl hnest) (fun _ h => h) m_dk17 ?_
    refine va_tlen hx hb hT hS (v := 10) rfl m_dk20 ?_
    exact V21 h1 h2 h3 H locs lsA hl hh2 hS
  have V13 : VV 13 ls [.inr (some w.1.length), .inr (some k)] w1 := mv_pf (w := w1) (j := 0) hx hb ok hown hK m_ff1 (by decide) (Or.inl lk0) (Or.inr ⟨rfl, hin, rfl, lk0⟩) hk1 m_dk13 (v := .inr (some w.1.length)) (w' := w2) rfl (fun a ha => ⟨rfl, m_sr_row ha⟩) (fun i hi => by
    match i, hi with
    | 0, _ => show Sum.inr (m_sr w1.2.2 k 0 (some w.1.length) k 0) = _; simp [m_sr]
    | 1, _ => rfl
    | i + 2, h => exact absurd h (by omega)) rfl rfl V16
  obtain ⟨hl1, hl2⟩ := m_lh.entry (ad := m_ad base bS) (n := m_mx 1) [.inr (some k)] (Nat.le_of_ble_eq_true rfl)
  have hl := hl2 _ (lv_entry (([.inr (some k)] : List mV).map (m_tv (m_ad base bS))) (n := m_mx 1) hl1)
  rw [lg_entry_eq]
  show W p l e (m_rm (d + 1) 1) s m _ below meth c s.heap [] 0 0 QQ (F0 m 0 _ [])
  generalize (lg_sl (([.inr (some k)] : List mV).map (m_tv (m_ad base bS))) ++ List.replicate (m_mx 1 - (lg_sl (([.inr (some k)] : List mV).map (m_tv (m_ad base bS)))).length) Slot.unset).toArray = lsA at hl ⊢
  have hl : m_lh (m_ad base bS) 1 ls lsA := hl
  have hla : lsA[0]? = some (.val (.ref (m_ad base bS k))) := hl.2 0 (.inr (some k)) rfl
  refine lv_aload_n hx hb m_dk0 rfl hla ?_
  refine W.objInit hx hb hown (ok _ (m_w 69 (by decide +kernel) (by decide +kernel))) (ok _ (m_w 62 (by decide +kernel) (by decide +kernel))) (ok _ (m_w 63 (by decide +kernel) rfl)) rfl (by rw [hml]; exact hl.1.1) rfl m_dk1 (by show 1 ≤ d + 1; omega) (by show 2 * 0 + 0 + 12 ≤ 64 * (d + 1); omega) ?_
  refine lv_aload_n (pc := 4) hx hb m_dk4 rfl hla ?_
  refine va_getsN (pc := 5) hx hb hZ va_S.rf hown (va_Nw.use rfl hnest) (fun _ h => h) m_dk5 ?_
  refine lv_bipush (pc := 8) (v := 16) hx hb m_dk8 (by decide) ?_
  refine va_callr (pc := 10) (A0 := fun q => base ≤ q) (va_runS (Ts := m_W0) (As := [.ref t, .int 16]) (rest := [.ref (m_ad base bS k)]) ⟨hx, hb, hml, hown, ok⟩ (m_copyOf l D cA base t s.heap.size) (⟨callB_of 2 ok (fun x hx => by
      have h0 : x ∈ m_W0 := by
        rcases List.mem_cons.mp hx with rfl | h
        · exact m_w 74 rfl rfl
        · exact h
      exact ⟨h0, good_of_word (List.mem_filter.mp h0).2⟩) rfl rfl rfl (ok _ (m_w 48 (by decide +kernel) (by decide +kernel))) (ok _ (m_w 72 (by decide +kernel) (by decide +kernel))) ⟨by decide, by decide, by decide +kernel⟩ ⟨by show 1 + 1 ≤ d + 1; omega, by show 8 + (3 + 11) + 40 ≤ 64 * (d + 1); omega⟩, ok _ (m_w 73 (by decide +kernel) (by decide +kernel))⟩)
      ⟨fun a U g mk q => by
        obtain ⟨q0, q1, q2, q3, q4⟩ := q
        exact ⟨q0, q1, q2, va_T.moved (u := U) (U := U.calling g mk a) (Vm.Alike.refl U.vm) q3, va_K.moved (u := U) (U := U.calling g mk a) (Vm.Alike.refl U.vm) q4⟩, fun U hU hW => ⟨rfl, by rw [hU], by rw [hh.1]; omega, by rw [hU]; exact hT.moved hW.alike, va_K.moved hW.alike hK⟩⟩ rfl rfl hl.1.1 rfl (lv_room (Nat.le_of_ble_eq_true rfl)) m_dk10 ⟨by show 0 + 1 ≤ 1; decide, by show 0 + 16 ≤ 16; decide⟩) va_S.rf (fun q _ h => Nat.le_trans (by rw [hh.1]; omega) h) (fun q h => Nat.le_trans (by rw [hh.1]; omega) h) (fun u ra t' H1 locs1 ht hvm hp hB hz hkp hS1 => ?_)
  obtain ⟨rfl, z1, c1⟩ := hB
  rw [ht] at z1 c1
  have hh1 : m_hd D cA base bS L s w1 H1 := by
    refine hh.pushG (w' := w1) (h := (1, 16)) hlen rfl (fun a ha => ⟨funext fun b => by show (if a = w.1.length then _ else _) = _; rw [if_neg ha], funext fun b => by show m_zr w.2.2 w.1.length a b = _; simp [m_zr, ha]⟩) z1 (fun q hq => hkp q hq (by show ¬ s.heap.size ≤ q; omega)) ?_
    show H1[base + w.1.length]? = some (arrV (cA 1) 16 (fun j => .int (if w.1.length = w.1.length then m_fpi j else w.2.1 w.1.length j)))
    rw [← hh.1, c1]
    congr 2
    funext j
    rw [if_pos rfl]
  have hW := V13 rfl (by omega) (by omega) H1 locs1 lsA hl hh1 hS1
  have hW : W p l e (m_rm (d + 1) 1) s m _ below meth c H1 locs1 (w1.1.length - w.1.length) (m_sl w1.1 - m_sl w.1) QQ (F0 m 13 lsA [.ref (m_ad base bS w.1.length), .ref (m_ad base bS k)]) := hW
  rw [e9, ← hh.1] at hW
  exact W.cs (by omega) (by omega) hW
end
section
/-! rows of the small machine over the world of both objects: shapes m_SH -/
def m_SH : List (Nat × Nat) := [(0, 0), (0, 1), (1, 16), (3, 10), (1, 4), (4, 10), (0, 2), (1, 3), (2, 3), (1, 8), (1, 8), (1, 8), (0, 4), (0, 3), (1, 4), (2, 4), (2, 4), (2, 4), (1, 8), (2, 8), (1, 4), (2, 4), (0, 2), (1, 3), (2, 3), (1, 8), (1, 8), (1, 8), (0, 4), (0, 3), (1, 4), (2, 4), (2, 4), (2, 4), (1, 8), (2, 8), (1, 4), (2, 4), (0, 2), (1, 3), (2, 3), (1, 8), (1, 8), (1, 8), (0, 4), (0, 3), (1, 4), (2, 4), (2, 4), (2, 4), (1, 8), (2, 8), (1, 4), (2, 4), (0, 2), (1, 3), (2, 3), (1, 8), (1, 8), (1, 8), (0, 4), (0, 3), (1, 4), (2, 4), (2, 4), (2, 4), (1, 8), (2, 8), (1, 4), (2, 4), (0, 2), (1, 3), (2, 3), (1, 8), (1, 8), (1, 8), (0, 4), (0, 3), (1, 4), (2, 4), (2, 4), (2, 4), (1, 8), (2, 8), (1, 4), (2, 4), (0, 2), (1, 3), (2, 3), (1, 8), (1, 8), (1, 8), (0, 4), (0, 3), (1, 4), (2, 4), (2, 4), (2, 4), (1, 8), (2, 8), (1, 4), (2, 4), (0, 2), (1, 3), (2, 3), (1, 8), (1, 8), (1, 8), (0, 4), (0, 3), (1, 4), (2, 4), (2, 4), (2, 4), (1, 8), (2, 8), (1, 4), (2, 4), (0, 2), (1, 3), (2, 3), (1, 8), (1, 8), (1, 8), (0, 4), (0, 3), (1, 4), (2, 4), (2, 4), (2, 4), (1, 8), (2, 8), (1, 4), (2, 4), (0, 2), (1, 3), (2, 3), (1, 8), (1, 8), (1, 8), (0, 4), (0, 3), (1, 4), (2, 4), (2, 4), (2, 4), (1, 8), (2, 8), (1, 4), (2, 4), (0, 2), (1, 3), (2, 3), (1, 8), (1, 8), (1, 8), (0, 4), (0, 3), (1, 4), (2, 4), (2, 4), (2, 4), (1, 8), (2, 8), (1, 4), (2, 4), (0, 5), (1, 128), (1, 128), (1, 4), (0, 6), (1, 16), (1, 10), (1, 10), (1, 30), (2, 30), (1, 10), (1, 80), (1, 80), (1, 80), (1, 4), (1, 4), (1, 128), (1, 128), (1, 10), (1, 10), (1, 10), (1, 10), (1, 10), (2, 10), (2, 40), (1, 40), (2, 10), (2, 40), (1, 40), (2, 40), (2, 40), (2, 10), (1, 10), (1, 80), (2, 80)]
def m_kn (k : Nat) : Nat := (m_SH.getD k (9, 0)).1
def m_ln (k : Nat) : Nat := (m_SH.getD k (9, 0)).2
theorem m_shk {k t : Nat} (h : m_kn k = t) (h9 : t ≠ 9) : m_SH[k]? = some (t, m_ln k) := by
  unfold m_kn at h
  unfold m_ln
  rw [List.getD_eq_getElem?_getD] at h ⊢
  cases hk : m_SH[k]? with
  | none => rw [hk] at h; exact absurd h.symm h9
  | some q =>
    rw [hk] at h
    obtain ⟨a, b⟩ := q
    have h : a = t := h
    subst h
    rfl
theorem m_sho {k c : Nat} (h1 : m_kn k = 0) (h2 : m_ln k = c) : m_SH[k]? = some (0, c) := by
  rw [m_shk h1 (by decide), h2]
theorem m_b0 {i a b : Nat} (h : m_bg i = (0, 0)) : a = a + (m_bg i).1 ∧ b = b + (m_bg i).2 := by
  rw [h]
  exact ⟨rfl, rfl⟩
theorem m_ri1 {me N S : Nat} {x : Int32} {w : mW} (h : m_rt me = 1) (h2 : w.1.length = N + (m_bg me).1 ∧ m_sl w.1 = S + (m_bg me).2) : m_ri me N S [.inl x] w = some (.inr (.inl (some (.inl x)))) := if_pos ⟨Or.inl h, h2⟩
theorem m_ri2 {me N S : Nat} {x : Int32} {w : mW} (h : m_rt me = 2) (hz : x = 0 ∨ x = 1) (h2 : w.1.length = N + (m_bg me).1 ∧ m_sl w.1 = S + (m_bg me).2) : m_ri me N S [.inl x] w = some (.inr (.inl (some (.inl x)))) := if_pos ⟨Or.inr ⟨h, hz⟩, h2⟩
theorem m_rv0 {me N S : Nat} {w : mW} (h : m_rt me = 0) (h2 : w.1.length = N + (m_bg me).1 ∧ m_sl w.1 = S + (m_bg me).2) : m_rv me N S [] w = some (.inr (.inl none)) := if_pos ⟨h, h2⟩
theorem m_st_ri {me N S pc : Nat} {ls : mL} {st : mS} {w : mW} : m_st me N S pc ls st w .ireturn = m_ri me N S st w := rfl
theorem m_st_rv {me N S pc : Nat} {ls : mL} {st : mS} {w : mW} : m_st me N S pc ls st w .return_ = m_rv me N S st w := rfl
section RW
variable {d me pc : Nat} {Q : mQ} {ls : mL} {st : mS} {w w' : mW} {N S : Nat} {i : Jvm.ClassFile.Instr}
theorem m_rst {pc' : Nat} {ls' : mL} {st' : mS} (hi : m_tb me pc = some i) (ho : m_st me N S pc ls st w i = some (.inl (pc', ls', st', w'))) : m_R (m_E d) me N S Q pc ls st w = m_R (m_E d) me N S Q pc' ls' st' w' := by
  rw [m_R_eq (m_E_mono d)]
  unfold m_F
  rw [hi]
  show m_A _ _ _ _ _ _ (m_st me N S pc ls st w i) = _
  rw [ho]
  rfl
theorem m_rif {P : Prop} [Decidable P] {o1 o2 : Option mO} (hi : m_tb me pc = some i) (ho : m_st me N S pc ls st w i = if P then o1 else o2) : m_R (m_E d) me N S Q pc ls st w = (if P then m_A (m_E d) (m_R (m_E d) me N S Q) Q pc ls w o1 else m_A (m_E d) (m_R (m_E d) me N S Q) Q pc ls w o2) := by
  rw [m_R_eq (m_E_mono d)]
  unfold m_F
  rw [hi]
  show m_A _ _ _ _ _ _ (m_st me N S pc ls st w i) = _
  rw [ho]
  by_cases h : P
  · rw [if_pos h, if_pos h]
  · rw [if_neg h, if_neg h]
theorem m_rret {v : Option mV} (hi : m_tb me pc = some i) (ho : m_st me N S pc ls st w i = some (.inr (.inl v))) : m_R (m_E d) me N S Q pc ls st w = Q v w := by
  rw [m_R_eq (m_E_mono d)]
  unfold m_F
  rw [hi]
  show m_A _ _ _ _ _ _ (m_st me N S pc ls st w i) = _
  rw [ho]
  rfl
theorem m_rcall {y : Nat} {as : List mV} {rest : mS} (hi : m_tb me pc = some i) (ho : m_st me N S pc ls st w i = some (.inr (.inr (y, as, rest)))) : m_R (m_E d) me N S Q pc ls st w = m_E d y as w (fun r w' => m_R (m_E d) me N S Q (pc + 3) ls (r.toList ++ rest) w') := by
  rw [m_R_eq (m_E_mono d)]
  unfold m_F
  rw [hi]
  show m_A _ _ _ _ _ _ (m_st me N S pc ls st w i) = _
  rw [ho]
  rfl
end RW
theorem m_lkd {z : Int} {c : Prop} [Decidable c] {t : Nat} {o : Option mO} {ls : mL} {st : mS} {w : mW} (hc : c) (h : z = (t : Int)) : (if c then m_nx z ls st w else o) = some (.inl (t, ls, st, w)) := by
  rw [if_pos hc, m_nx_of h]
  rfl
section RX
variable {pc k : Nat} {ls : mL} {st : mS} {f : Nat → Nat → Int32} {g : Nat → Nat → Option Nat} {i x : Int32}
theorem m_xi_of (hs : m_kn k = 1) (hi : ¬ (i < 0 ∨ m_ln k ≤ i.toNatClampNeg)) : m_xi pc ls (.inl i :: .inr (some k) :: st) (m_SH, f, g) = some (.inl (pc, ls, .inl (f k i.toNatClampNeg) :: st, (m_SH, f, g))) := by
  unfold m_xi
  simp only [m_shk hs (by decide)]
  rw [if_pos ⟨trivial, hi⟩]
  rfl
theorem m_xb_of (hs : m_kn k = 2) (hi : ¬ (i < 0 ∨ m_ln k ≤ i.toNatClampNeg)) : m_xb pc ls (.inl i :: .inr (some k) :: st) (m_SH, f, g) = some (.inl (pc, ls, .inl (f k i.toNatClampNeg) :: st, (m_SH, f, g))) := by
  unfold m_xb
  simp only [m_shk hs (by decide)]
  rw [if_pos ⟨trivial, hi⟩]
  rfl
theorem m_xa_of (hs : m_kn k = 3 ∨ m_kn k = 4) (hi : ¬ (i < 0 ∨ m_ln k ≤ i.toNatClampNeg)) : m_xa pc ls (.inl i :: .inr (some k) :: st) (m_SH, f, g) = some (.inl (pc, ls, .inr (g k i.toNatClampNeg) :: st, (m_SH, f, g))) := by
  unfold m_xa
  rcases hs with hs | hs
  · simp only [m_shk hs (by decide)]
    rw [if_pos ⟨Or.inl trivial, hi⟩]
    rfl
  · simp only [m_shk hs (by decide)]
    rw [if_pos ⟨Or.inr trivial, hi⟩]
    rfl
theorem m_yi_of (hs : m_kn k = 1) (hi : ¬ (i < 0 ∨ m_ln k ≤ i.toNatClampNeg)) : m_yi pc ls (.inl x :: .inl i :: .inr (some k) :: st) (m_SH, f, g) = some (.inl (pc, ls, st, (m_SH, m_si f k i.toNatClampNeg x, g))) := by
  unfold m_yi
  simp only [m_shk hs (by decide)]
  rw [if_pos ⟨trivial, hi⟩]
  rfl
theorem m_yb_of (hs : m_kn k = 2) (hz : x = 0 ∨ x = 1) (hi : ¬ (i < 0 ∨ m_ln k ≤ i.toNatClampNeg)) : m_yb pc ls (.inl x :: .inl i :: .inr (some k) :: st) (m_SH, f, g) = some (.inl (pc, ls, st, (m_SH, m_si f k i.toNatClampNeg x, g))) := by
  unfold m_yb
  simp only [m_shk hs (by decide)]
  rw [if_pos ⟨⟨trivial, hz⟩, hi⟩]
  rfl
end RX
end
section
/-! 7: Desk_kind -/
theorem r7_0 {d : Nat} {Q : mQ} {l0 l1 : Option mV} {st : mS} {f : Nat → Nat → Int32} {g : Nat → Nat → Option Nat} {x : Option Nat}  : m_R (m_E d) 7 m_SH.length (m_sl m_SH) Q 0 [some (.inr x), l1] st (m_SH, f, g) = m_R (m_E d) 7 m_SH.length (m_sl m_SH) Q 1 [some (.inr x), l1] (.inr x :: st) (m_SH, f, g) := m_rst rfl rfl
theorem r7_1 {d : Nat} {Q : mQ} {l0 l1 : Option mV} {st : mS} {f : Nat → Nat → Int32} {g : Nat → Nat → Option Nat} {k : Nat} (hs1 : m_kn k = 0) (hs2 : m_ln k = 0) : m_R (m_E d) 7 m_SH.length (m_sl m_SH) Q 1 [l0, l1] (.inr (some k) :: st) (m_SH, f, g) = m_R (m_E d) 7 m_SH.length (m_sl m_SH) Q 4 [l0, l1] (.inr (g k 0) :: st) (m_SH, f, g) := m_rst rfl (if_pos (m_sho hs1 hs2))
theorem r7_4 {d : Nat} {Q : mQ} {l0 l1 : Option mV} {st : mS} {f : Nat → Nat → Int32} {g : Nat → Nat → Option Nat} {x : Int32}  : m_R (m_E d) 7 m_SH.length (m_sl m_SH) Q 4 [l0, some (.inl x)] st (m_SH, f, g) = m_R (m_E d) 7 m_SH.length (m_sl m_SH) Q 5 [l0, some (.inl x)] (.inl x :: st) (m_SH, f, g) := m_rst rfl rfl
theorem r7_5 {d : Nat} {Q : mQ} {l0 l1 : Option mV} {st : mS} {f : Nat → Nat → Int32} {g : Nat → Nat → Option Nat} {v0 : mV} {k : Nat} (hs1 : m_kn k = 0) (hs2 : m_ln k = 1) (hst : st.length ≤ 8) : m_R (m_E d) 7 m_SH.length (m_sl m_SH) Q 5 [l0, l1] (v0 :: .inr (some k) :: st) (m_SH, f, g) = m_E d 8 [.inr (some k), v0] (m_SH, f, g) (fun r w => m_R (m_E d) 7 m_SH.length (m_sl m_SH) Q 8 [l0, l1] (r.toList ++ st) w) := m_rcall (rest := st) rfl (if_pos ⟨⟨by show 1 ≤ List.length (v0 :: .inr (some k) :: st); simp only [List.length_cons]; omega, rfl, hst, fun _ => m_sho hs1 hs2⟩, Nat.le_refl _, Nat.le_refl _⟩)
theorem r7_8 {d : Nat} {Q : mQ} {l0 l1 : Option mV} {st : mS} {f : Nat → Nat → Int32} {g : Nat → Nat → Option Nat} {x : Int32} : m_R (m_E d) 7 m_SH.length (m_sl m_SH) Q 8 [l0, l1] (.inl x :: st) (m_SH, f, g) = (if x = 0 then m_R (m_E d) 7 m_SH.length (m_sl m_SH) Q 22 [l0, l1] st (m_SH, f, g) else m_R (m_E d) 7 m_SH.length (m_sl m_SH) Q 11 [l0, l1] st (m_SH, f, g)) := m_rif rfl (o1 := some (.inl (22, [l0, l1], st, (m_SH, f, g)))) (o2 := some (.inl (11, [l0, l1], st, (m_SH, f, g)))) rfl
theorem r7_11 {d : Nat} {Q : mQ} {l0 l1 : Option mV} {st : mS} {f : Nat → Nat → Int32} {g : Nat → Nat → Option Nat} {x : Option Nat}  : m_R (m_E d) 7 m_SH.length (m_sl m_SH) Q 11 [some (.inr x), l1] st (m_SH, f, g) = m_R (m_E d) 7 m_SH.length (m_sl m_SH) Q 12 [some (.inr x), l1] (.inr x :: st) (m_SH, f, g) := m_rst rfl rfl
theorem r7_12 {d : Nat} {Q : mQ} {l0 l1 : Option mV} {st : mS} {f : Nat → Nat → Int32} {g : Nat → Nat → Option Nat} {k : Nat} (hs1 : m_kn k = 0) (hs2 : m_ln k = 0) : m_R (m_E d) 7 m_SH.length (m_sl m_SH) Q 12 [l0, l1] (.inr (some k) :: st) (m_SH, f, g) = m_R (m_E d) 7 m_SH.length (m_sl m_SH) Q 15 [l0, l1] (.inr (g k 0) :: st) (m_SH, f, g) := m_rst rfl (if_pos (m_sho hs1 hs2))
theorem r7_15 {d : Nat} {Q : mQ} {l0 l1 : Option mV} {st : mS} {f : Nat → Nat → Int32} {g : Nat → Nat → Option Nat} {x : Int32}  : m_R (m_E d) 7 m_SH.length (m_sl m_SH) Q 15 [l0, some (.inl x)] st (m_SH, f, g) = m_R (m_E d) 7 m_SH.length (m_sl m_SH) Q 16 [l0, some (.inl x)] (.inl x :: st) (m_SH, f, g) := m_rst rfl rfl
theorem r7_16 {d : Nat} {Q : mQ} {l0 l1 : Option mV} {st : mS} {f : Nat → Nat → Int32} {g : Nat → Nat → Option Nat} {v0 : mV} {k : Nat} (hs1 : m_kn k = 0) (hs2 : m_ln k = 1) (hst : st.length ≤ 8) : m_R (m_E d) 7 m_SH.length (m_sl m_SH) Q 16 [l0, l1] (v0 :: .inr (some k) :: st) (m_SH, f, g) = m_E d 9 [.inr (some k), v0] (m_SH, f, g) (fun r w => m_R (m_E d) 7 m_SH.length (m_sl m_SH) Q 19 [l0, l1] (r.toList ++ st) w) := m_rcall (rest := st) rfl (if_pos ⟨⟨by show 1 ≤ List.length (v0 :: .inr (some k) :: st); simp only [List.length_cons]; omega, rfl, hst, fun _ => m_sho hs1 hs2⟩, Nat.le_refl _, Nat.le_refl _⟩)
theorem r7_19 {d : Nat} {Q : mQ} {l0 l1 : Option mV} {st : mS} {f : Nat → Nat → Int32} {g : Nat → Nat → Option Nat}  : m_R (m_E d) 7 m_SH.length (m_sl m_SH) Q 19 [l0, l1] st (m_SH, f, g) = m_R (m_E d) 7 m_SH.length (m_sl m_SH) Q 23 [l0, l1] st (m_SH, f, g) := m_rst rfl rfl
theorem r7_22 {d : Nat} {Q : mQ} {l0 l1 : Option mV} {st : mS} {f : Nat → Nat → Int32} {g : Nat → Nat → Option Nat}  : m_R (m_E d) 7 m_SH.length (m_sl m_SH) Q 22 [l0, l1] st (m_SH, f, g) = m_R (m_E d) 7 m_SH.length (m_sl m_SH) Q 23 [l0, l1] (.inl (-1) :: st) (m_SH, f, g) := m_rst rfl rfl
theorem r7_23 {d : Nat} {Q : mQ} {l0 l1 : Option mV} {f : Nat → Nat → Int32} {g : Nat → Nat → Option Nat} {x : Int32} : m_R (m_E d) 7 m_SH.length (m_sl m_SH) Q 23 [l0, l1] [.inl x] (m_SH, f, g) = Q (some (.inl x)) (m_SH, f, g) := m_rret (i := .ireturn) rfl (m_st_ri.trans (m_ri1 (me := 7) (N := m_SH.length) (S := m_sl m_SH) (w := (m_SH, f, g)) rfl (m_b0 rfl)))
/-! 8: Kinds_has -/
theorem r8_0 {d : Nat} {Q : mQ} {l0 l1 : Option mV} {st : mS} {f : Nat → Nat → Int32} {g : Nat → Nat → Option Nat} {x : Int32}  : m_R (m_E d) 8 m_SH.length (m_sl m_SH) Q 0 [l0, some (.inl x)] st (m_SH, f, g) = m_R (m_E d) 8 m_SH.length (m_sl m_SH) Q 1 [l0, some (.inl x)] (.inl x :: st) (m_SH, f, g) := m_rst rfl rfl
theorem r8_1 {d : Nat} {Q : mQ} {l0 l1 : Option mV} {st : mS} {f : Nat → Nat → Int32} {g : Nat → Nat → Option Nat} {x : Int32} : m_R (m_E d) 8 m_SH.length (m_sl m_SH) Q 1 [l0, l1] (.inl x :: st) (m_SH, f, g) = (if x < 0 then m_R (m_E d) 8 m_SH.length (m_sl m_SH) Q 16 [l0, l1] st (m_SH, f, g) else m_R (m_E d) 8 m_SH.length (m_sl m_SH) Q 4 [l0, l1] st (m_SH, f, g)) := m_rif rfl (o1 := some (.inl (16, [l0, l1], st, (m_SH, f, g)))) (o2 := some (.inl (4, [l0, l1], st, (m_SH, f, g)))) rfl
theorem r8_4 {d : Nat} {Q : mQ} {l0 l1 : Option mV} {st : mS} {f : Nat → Nat → Int32} {g : Nat → Nat → Option Nat} {x : Int32}  : m_R (m_E d) 8 m_SH.length (m_sl m_SH) Q 4 [l0, some (.inl x)] st (m_SH, f, g) = m_R (m_E d) 8 m_SH.length (m_sl m_SH) Q 5 [l0, some (.inl x)] (.inl x :: st) (m_SH, f, g) := m_rst rfl rfl
theorem r8_5 {d : Nat} {Q : mQ} {l0 l1 : Option mV} {st : mS} {f : Nat → Nat → Int32} {g : Nat → Nat → Option Nat} {x : Option Nat}  : m_R (m_E d) 8 m_SH.length (m_sl m_SH) Q 5 [some (.inr x), l1] st (m_SH, f, g) = m_R (m_E d) 8 m_SH.length (m_sl m_SH) Q 6 [some (.inr x), l1] (.inr x :: st) (m_SH, f, g) := m_rst rfl rfl
theorem r8_6 {d : Nat} {Q : mQ} {l0 l1 : Option mV} {st : mS} {f : Nat → Nat → Int32} {g : Nat → Nat → Option Nat} {k : Nat} (hs1 : m_kn k = 0) (hs2 : m_ln k = 1) : m_R (m_E d) 8 m_SH.length (m_sl m_SH) Q 6 [l0, l1] (.inr (some k) :: st) (m_SH, f, g) = m_R (m_E d) 8 m_SH.length (m_sl m_SH) Q 9 [l0, l1] (.inl (f k 1) :: st) (m_SH, f, g) := m_rst rfl (if_pos (m_sho hs1 hs2))
theorem r8_9 {d : Nat} {Q : mQ} {l0 l1 : Option mV} {st : mS} {f : Nat → Nat → Int32} {g : Nat → Nat → Option Nat} {x y : Int32} : m_R (m_E d) 8 m_SH.length (m_sl m_SH) Q 9 [l0, l1] (.inl y :: .inl x :: st) (m_SH, f, g) = (if y ≤ x then m_R (m_E d) 8 m_SH.length (m_sl m_SH) Q 16 [l0, l1] st (m_SH, f, g) else m_R (m_E d) 8 m_SH.length (m_sl m_SH) Q 12 [l0, l1] st (m_SH, f, g)) := m_rif rfl (o1 := some (.inl (16, [l0, l1], st, (m_SH, f, g)))) (o2 := some (.inl (12, [l0, l1], st, (m_SH, f, g)))) rfl
theorem r8_12 {d : Nat} {Q : mQ} {l0 l1 : Option mV} {st : mS} {f : Nat → Nat → Int32} {g : Nat → Nat → Option Nat}  : m_R (m_E d) 8 m_SH.length (m_sl m_SH) Q 12 [l0, l1] st (m_SH, f, g) = m_R (m_E d) 8 m_SH.length (m_sl m_SH) Q 13 [l0, l1] (.inl 1 :: st) (m_SH, f, g) := m_rst rfl rfl
theorem r8_13 {d : Nat} {Q : mQ} {l0 l1 : Option mV} {st : mS} {f : Nat → Nat → Int32} {g : Nat → Nat → Option Nat}  : m_R (m_E d) 8 m_SH.length (m_sl m_SH) Q 13 [l0, l1] st (m_SH, f, g) = m_R (m_E d) 8 m_SH.length (m_sl m_SH) Q 17 [l0, l1] st (m_SH, f, g) := m_rst rfl rfl
theorem r8_16 {d : Nat} {Q : mQ} {l0 l1 : Option mV} {st : mS} {f : Nat → Nat → Int32} {g : Nat → Nat → Option Nat}  : m_R (m_E d) 8 m_SH.length (m_sl m_SH) Q 16 [l0, l1] st (m_SH, f, g) = m_R (m_E d) 8 m_SH.length (m_sl m_SH) Q 17 [l0, l1] (.inl 0 :: st) (m_SH, f, g) := m_rst rfl rfl
theorem r8_17 {d : Nat} {Q : mQ} {l0 l1 : Option mV} {f : Nat → Nat → Int32} {g : Nat → Nat → Option Nat} {x : Int32} (hz : x = 0 ∨ x = 1) : m_R (m_E d) 8 m_SH.length (m_sl m_SH) Q 17 [l0, l1] [.inl x] (m_SH, f, g) = Q (some (.inl x)) (m_SH, f, g) := m_rret (i := .ireturn) rfl (m_st_ri.trans (m_ri2 (me := 8) (N := m_SH.length) (S := m_sl m_SH) (w := (m_SH, f, g)) rfl hz (m_b0 rfl)))
/-! 9: Kinds_add -/
theorem r9_0 {d : Nat} {Q : mQ} {l0 l1 : Option mV} {st : mS} {f : Nat → Nat → Int32} {g : Nat → Nat → Option Nat} {x : Option Nat}  : m_R (m_E d) 9 m_SH.length (m_sl m_SH) Q 0 [some (.inr x), l1] st (m_SH, f, g) = m_R (m_E d) 9 m_SH.length (m_sl m_SH) Q 1 [some (.inr x), l1] (.inr x :: st) (m_SH, f, g) := m_rst rfl rfl
theorem r9_1 {d : Nat} {Q : mQ} {l0 l1 : Option mV} {st : mS} {f : Nat → Nat → Int32} {g : Nat → Nat → Option Nat} {k : Nat} (hs1 : m_kn k = 0) (hs2 : m_ln k = 1) : m_R (m_E d) 9 m_SH.length (m_sl m_SH) Q 1 [l0, l1] (.inr (some k) :: st) (m_SH, f, g) = m_R (m_E d) 9 m_SH.length (m_sl m_SH) Q 4 [l0, l1] (.inl (f k 1) :: st) (m_SH, f, g) := m_rst rfl (if_pos (m_sho hs1 hs2))
theorem r9_4 {d : Nat} {Q : mQ} {l0 l1 : Option mV} {st : mS} {f : Nat → Nat → Int32} {g : Nat → Nat → Option Nat}  : m_R (m_E d) 9 m_SH.length (m_sl m_SH) Q 4 [l0, l1] st (m_SH, f, g) = m_R (m_E d) 9 m_SH.length (m_sl m_SH) Q 6 [l0, l1] (.inl 16 :: st) (m_SH, f, g) := m_rst rfl rfl
theorem r9_6 {d : Nat} {Q : mQ} {l0 l1 : Option mV} {st : mS} {f : Nat → Nat → Int32} {g : Nat → Nat → Option Nat} {x y : Int32} : m_R (m_E d) 9 m_SH.length (m_sl m_SH) Q 6 [l0, l1] (.inl y :: .inl x :: st) (m_SH, f, g) = (if x < y then m_R (m_E d) 9 m_SH.length (m_sl m_SH) Q 11 [l0, l1] st (m_SH, f, g) else m_R (m_E d) 9 m_SH.length (m_sl m_SH) Q 9 [l0, l1] st (m_SH, f, g)) := m_rif rfl (o1 := some (.inl (11, [l0, l1], st, (m_SH, f, g)))) (o2 := some (.inl (9, [l0, l1], st, (m_SH, f, g)))) rfl
theorem r9_9 {d : Nat} {Q : mQ} {l0 l1 : Option mV} {st : mS} {f : Nat → Nat → Int32} {g : Nat → Nat → Option Nat}  : m_R (m_E d) 9 m_SH.length (m_sl m_SH) Q 9 [l0, l1] st (m_SH, f, g) = m_R (m_E d) 9 m_SH.length (m_sl m_SH) Q 10 [l0, l1] (.inl (-1) :: st) (m_SH, f, g) := m_rst rfl rfl
theorem r9_10 {d : Nat} {Q : mQ} {l0 l1 : Option mV} {f : Nat → Nat → Int32} {g : Nat → Nat → Option Nat} {x : Int32} : m_R (m_E d) 9 m_SH.length (m_sl m_SH) Q 10 [l0, l1] [.inl x] (m_SH, f, g) = Q (some (.inl x)) (m_SH, f, g) := m_rret (i := .ireturn) rfl (m_st_ri.trans (m_ri1 (me := 9) (N := m_SH.length) (S := m_sl m_SH) (w := (m_SH, f, g)) rfl (m_b0 rfl)))
theorem r9_11 {d : Nat} {Q : mQ} {l0 l1 : Option mV} {st : mS} {f : Nat → Nat → Int32} {g : Nat → Nat → Option Nat} {x : Option Nat}  : m_R (m_E d) 9 m_SH.length (m_sl m_SH) Q 11 [some (.inr x), l1] st (m_SH, f, g) = m_R (m_E d) 9 m_SH.length (m_sl m_SH) Q 12 [some (.inr x), l1] (.inr x :: st) (m_SH, f, g) := m_rst rfl rfl
theorem r9_12 {d : Nat} {Q : mQ} {l0 l1 : Option mV} {st : mS} {f : Nat → Nat → Int32} {g : Nat → Nat → Option Nat} {k : Nat} (hs1 : m_kn k = 0) (hs2 : m_ln k = 1) : m_R (m_E d) 9 m_SH.length (m_sl m_SH) Q 12 [l0, l1] (.inr (some k) :: st) (m_SH, f, g) = m_R (m_E d) 9 m_SH.length (m_sl m_SH) Q 15 [l0, l1] (.inr (g k 0) :: st) (m_SH, f, g) := m_rst rfl (if_pos (m_sho hs1 hs2))
theorem r9_15 {d : Nat} {Q : mQ} {l0 l1 : Option mV} {st : mS} {f : Nat → Nat → Int32} {g : Nat → Nat → Option Nat} {x : Option Nat}  : m_R (m_E d) 9 m_SH.length (m_sl m_SH) Q 15 [some (.inr x), l1] st (m_SH, f, g) = m_R (m_E d) 9 m_SH.length (m_sl m_SH) Q 16 [some (.inr x), l1] (.inr x :: st) (m_SH, f, g) := m_rst rfl rfl
theorem r9_16 {d : Nat} {Q : mQ} {l0 l1 : Option mV} {st : mS} {f : Nat → Nat → Int32} {g : Nat → Nat → Option Nat} {k : Nat} (hs1 : m_kn k = 0) (hs2 : m_ln k = 1) : m_R (m_E d) 9 m_SH.length (m_sl m_SH) Q 16 [l0, l1] (.inr (some k) :: st) (m_SH, f, g) = m_R (m_E d) 9 m_SH.length (m_sl m_SH) Q 19 [l0, l1] (.inl (f k 1) :: st) (m_SH, f, g) := m_rst rfl (if_pos (m_sho hs1 hs2))
theorem r9_19 {d : Nat} {Q : mQ} {l0 l1 : Option mV} {st : mS} {f : Nat → Nat → Int32} {g : Nat → Nat → Option Nat} {x : Int32}  : m_R (m_E d) 9 m_SH.length (m_sl m_SH) Q 19 [l0, some (.inl x)] st (m_SH, f, g) = m_R (m_E d) 9 m_SH.length (m_sl m_SH) Q 20 [l0, some (.inl x)] (.inl x :: st) (m_SH, f, g) := m_rst rfl rfl
theorem r9_20 {d : Nat} {Q : mQ} {l0 l1 : Option mV} {st : mS} {f : Nat → Nat → Int32} {g : Nat → Nat → Option Nat} {k : Nat} {i x : Int32} (hs1 : m_kn k = 1) (hi : ¬ (i < 0 ∨ m_ln k ≤ i.toNatClampNeg)) : m_R (m_E d) 9 m_SH.length (m_sl m_SH) Q 20 [l0, l1] (.inl x :: .inl i :: .inr (some k) :: st) (m_SH, f, g) = m_R (m_E d) 9 m_SH.length (m_sl m_SH) Q 21 [l0, l1] st (m_SH, m_si f k i.toNatClampNeg x, g) := m_rst rfl (m_yi_of hs1 hi)
theorem r9_21 {d : Nat} {Q : mQ} {l0 l1 : Option mV} {st : mS} {f : Nat → Nat → Int32} {g : Nat → Nat → Option Nat} {x : Option Nat}  : m_R (m_E d) 9 m_SH.length (m_sl m_SH) Q 21 [some (.inr x), l1] st (m_SH, f, g) = m_R (m_E d) 9 m_SH.length (m_sl m_SH) Q 22 [some (.inr x), l1] (.inr x :: st) (m_SH, f, g) := m_rst rfl rfl
theorem r9_22 {d : Nat} {Q : mQ} {l0 l1 : Option mV} {st : mS} {f : Nat → Nat → Int32} {g : Nat → Nat → Option Nat} {v : mV}  : m_R (m_E d) 9 m_SH.length (m_sl m_SH) Q 22 [l0, l1] (v :: st) (m_SH, f, g) = m_R (m_E d) 9 m_SH.length (m_sl m_SH) Q 23 [l0, l1] (v :: v :: st) (m_SH, f, g) := m_rst rfl rfl
theorem r9_23 {d : Nat} {Q : mQ} {l0 l1 : Option mV} {st : mS} {f : Nat → Nat → Int32} {g : Nat → Nat → Option Nat} {k : Nat} (hs1 : m_kn k = 0) (hs2 : m_ln k = 1) : m_R (m_E d) 9 m_SH.length (m_sl m_SH) Q 23 [l0, l1] (.inr (some k) :: st) (m_SH, f, g) = m_R (m_E d) 9 m_SH.length (m_sl m_SH) Q 26 [l0, l1] (.inl (f k 1) :: st) (m_SH, f, g) := m_rst rfl (if_pos (m_sho hs1 hs2))
theorem r9_26 {d : Nat} {Q : mQ} {l0 l1 : Option mV} {st : mS} {f : Nat → Nat → Int32} {g : Nat → Nat → Option Nat}  : m_R (m_E d) 9 m_SH.length (m_sl m_SH) Q 26 [l0, l1] st (m_SH, f, g) = m_R (m_E d) 9 m_SH.length (m_sl m_SH) Q 27 [l0, l1] (.inl 1 :: st) (m_SH, f, g) := m_rst rfl rfl
theorem r9_27 {d : Nat} {Q : mQ} {l0 l1 : Option mV} {st : mS} {f : Nat → Nat → Int32} {g : Nat → Nat → Option Nat} {x y : Int32}  : m_R (m_E d) 9 m_SH.length (m_sl m_SH) Q 27 [l0, l1] (.inl y :: .inl x :: st) (m_SH, f, g) = m_R (m_E d) 9 m_SH.length (m_sl m_SH) Q 28 [l0, l1] (.inl (x + y) :: st) (m_SH, f, g) := m_rst rfl rfl
theorem r9_28 {d : Nat} {Q : mQ} {l0 l1 : Option mV} {st : mS} {f : Nat → Nat → Int32} {g : Nat → Nat → Option Nat} {k : Nat} {x : Int32} (hs1 : m_kn k = 0) (hs2 : m_ln k = 1) : m_R (m_E d) 9 m_SH.length (m_sl m_SH) Q 28 [l0, l1] (.inl x :: .inr (some k) :: st) (m_SH, f, g) = m_R (m_E d) 9 m_SH.length (m_sl m_SH) Q 31 [l0, l1] st (m_SH, m_si f k 1 x, g) := m_rst rfl (if_pos ⟨m_sho hs1 hs2, Or.inl rfl⟩)
theorem r9_31 {d : Nat} {Q : mQ} {l0 l1 : Option mV} {st : mS} {f : Nat → Nat → Int32} {g : Nat → Nat → Option Nat} {x : Option Nat}  : m_R (m_E d) 9 m_SH.length (m_sl m_SH) Q 31 [some (.inr x), l1] st (m_SH, f, g) = m_R (m_E d) 9 m_SH.length (m_sl m_SH) Q 32 [some (.inr x), l1] (.inr x :: st) (m_SH, f, g) := m_rst rfl rfl
theorem r9_32 {d : Nat} {Q : mQ} {l0 l1 : Option mV} {st : mS} {f : Nat → Nat → Int32} {g : Nat → Nat → Option Nat} {k : Nat} (hs1 : m_kn k = 0) (hs2 : m_ln k = 1) : m_R (m_E d) 9 m_SH.length (m_sl m_SH) Q 32 [l0, l1] (.inr (some k) :: st) (m_SH, f, g) = m_R (m_E d) 9 m_SH.length (m_sl m_SH) Q 35 [l0, l1] (.inl (f k 1) :: st) (m_SH, f, g) := m_rst rfl (if_pos (m_sho hs1 hs2))
theorem r9_35 {d : Nat} {Q : mQ} {l0 l1 : Option mV} {st : mS} {f : Nat → Nat → Int32} {g : Nat → Nat → Option Nat}  : m_R (m_E d) 9 m_SH.length (m_sl m_SH) Q 35 [l0, l1] st (m_SH, f, g) = m_R (m_E d) 9 m_SH.length (m_sl m_SH) Q 36 [l0, l1] (.inl 1 :: st) (m_SH, f, g) := m_rst rfl rfl
theorem r9_36 {d : Nat} {Q : mQ} {l0 l1 : Option mV} {st : mS} {f : Nat → Nat → Int32} {g : Nat → Nat → Option Nat} {x y : Int32}  : m_R (m_E d) 9 m_SH.length (m_sl m_SH) Q 36 [l0, l1] (.inl y :: .inl x :: st) (m_SH, f, g) = m_R (m_E d) 9 m_SH.length (m_sl m_SH) Q 37 [l0, l1] (.inl (x - y) :: st) (m_SH, f, g) := m_rst rfl rfl
theorem r9_37 {d : Nat} {Q : mQ} {l0 l1 : Option mV} {f : Nat → Nat → Int32} {g : Nat → Nat → Option Nat} {x : Int32} : m_R (m_E d) 9 m_SH.length (m_sl m_SH) Q 37 [l0, l1] [.inl x] (m_SH, f, g) = Q (some (.inl x)) (m_SH, f, g) := m_rret (i := .ireturn) rfl (m_st_ri.trans (m_ri1 (me := 9) (N := m_SH.length) (S := m_sl m_SH) (w := (m_SH, f, g)) rfl (m_b0 rfl)))
/-! 10: Desk_method -/
theorem r10_0 {d : Nat} {Q : mQ} {l0 l1 : Option mV} {st : mS} {f : Nat → Nat → Int32} {g : Nat → Nat → Option Nat} {x : Int32}  : m_R (m_E d) 10 m_SH.length (m_sl m_SH) Q 0 [l0, some (.inl x)] st (m_SH, f, g) = m_R (m_E d) 10 m_SH.length (m_sl m_SH) Q 1 [l0, some (.inl x)] (.inl x :: st) (m_SH, f, g) := m_rst rfl rfl
theorem r10_1 {d : Nat} {Q : mQ} {l0 l1 : Option mV} {st : mS} {f : Nat → Nat → Int32} {g : Nat → Nat → Option Nat} {x : Int32} : m_R (m_E d) 10 m_SH.length (m_sl m_SH) Q 1 [l0, l1] (.inl x :: st) (m_SH, f, g) = (if x < 0 then m_R (m_E d) 10 m_SH.length (m_sl m_SH) Q 19 [l0, l1] st (m_SH, f, g) else m_R (m_E d) 10 m_SH.length (m_sl m_SH) Q 4 [l0, l1] st (m_SH, f, g)) := m_rif rfl (o1 := some (.inl (19, [l0, l1], st, (m_SH, f, g)))) (o2 := some (.inl (4, [l0, l1], st, (m_SH, f, g)))) rfl
theorem r10_4 {d : Nat} {Q : mQ} {l0 l1 : Option mV} {st : mS} {f : Nat → Nat → Int32} {g : Nat → Nat → Option Nat} {x : Int32}  : m_R (m_E d) 10 m_SH.length (m_sl m_SH) Q 4 [l0, some (.inl x)] st (m_SH, f, g) = m_R (m_E d) 10 m_SH.length (m_sl m_SH) Q 5 [l0, some (.inl x)] (.inl x :: st) (m_SH, f, g) := m_rst rfl rfl
theorem r10_5 {d : Nat} {Q : mQ} {l0 l1 : Option mV} {st : mS} {f : Nat → Nat → Int32} {g : Nat → Nat → Option Nat}  : m_R (m_E d) 10 m_SH.length (m_sl m_SH) Q 5 [l0, l1] st (m_SH, f, g) = m_R (m_E d) 10 m_SH.length (m_sl m_SH) Q 7 [l0, l1] (.inl 6 :: st) (m_SH, f, g) := m_rst rfl rfl
theorem r10_7 {d : Nat} {Q : mQ} {l0 l1 : Option mV} {st : mS} {f : Nat → Nat → Int32} {g : Nat → Nat → Option Nat} {x y : Int32} : m_R (m_E d) 10 m_SH.length (m_sl m_SH) Q 7 [l0, l1] (.inl y :: .inl x :: st) (m_SH, f, g) = (if y < x then m_R (m_E d) 10 m_SH.length (m_sl m_SH) Q 19 [l0, l1] st (m_SH, f, g) else m_R (m_E d) 10 m_SH.length (m_sl m_SH) Q 10 [l0, l1] st (m_SH, f, g)) := m_rif rfl (o1 := some (.inl (19, [l0, l1], st, (m_SH, f, g)))) (o2 := some (.inl (10, [l0, l1], st, (m_SH, f, g)))) rfl
theorem r10_10 {d : Nat} {Q : mQ} {l0 l1 : Option mV} {st : mS} {f : Nat → Nat → Int32} {g : Nat → Nat → Option Nat} {x : Option Nat}  : m_R (m_E d) 10 m_SH.length (m_sl m_SH) Q 10 [some (.inr x), l1] st (m_SH, f, g) = m_R (m_E d) 10 m_SH.length (m_sl m_SH) Q 11 [some (.inr x), l1] (.inr x :: st) (m_SH, f, g) := m_rst rfl rfl
theorem r10_11 {d : Nat} {Q : mQ} {l0 l1 : Option mV} {st : mS} {f : Nat → Nat → Int32} {g : Nat → Nat → Option Nat} {k : Nat} (hs1 : m_kn k = 0) (hs2 : m_ln k = 0) : m_R (m_E d) 10 m_SH.length (m_sl m_SH) Q 11 [l0, l1] (.inr (some k) :: st) (m_SH, f, g) = m_R (m_E d) 10 m_SH.length (m_sl m_SH) Q 14 [l0, l1] (.inl (f k 2) :: st) (m_SH, f, g) := m_rst rfl (if_pos (m_sho hs1 hs2))
theorem r10_14 {d : Nat} {Q : mQ} {l0 l1 : Option mV} {st : mS} {f : Nat → Nat → Int32} {g : Nat → Nat → Option Nat}  : m_R (m_E d) 10 m_SH.length (m_sl m_SH) Q 14 [l0, l1] st (m_SH, f, g) = m_R (m_E d) 10 m_SH.length (m_sl m_SH) Q 16 [l0, l1] (.inl 10 :: st) (m_SH, f, g) := m_rst rfl rfl
theorem r10_16 {d : Nat} {Q : mQ} {l0 l1 : Option mV} {st : mS} {f : Nat → Nat → Int32} {g : Nat → Nat → Option Nat} {x y : Int32} : m_R (m_E d) 10 m_SH.length (m_sl m_SH) Q 16 [l0, l1] (.inl y :: .inl x :: st) (m_SH, f, g) = (if x < y then m_R (m_E d) 10 m_SH.length (m_sl m_SH) Q 21 [l0, l1] st (m_SH, f, g) else m_R (m_E d) 10 m_SH.length (m_sl m_SH) Q 19 [l0, l1] st (m_SH, f, g)) := m_rif rfl (o1 := some (.inl (21, [l0, l1], st, (m_SH, f, g)))) (o2 := some (.inl (19, [l0, l1], st, (m_SH, f, g)))) rfl
theorem r10_19 {d : Nat} {Q : mQ} {l0 l1 : Option mV} {st : mS} {f : Nat → Nat → Int32} {g : Nat → Nat → Option Nat}  : m_R (m_E d) 10 m_SH.length (m_sl m_SH) Q 19 [l0, l1] st (m_SH, f, g) = m_R (m_E d) 10 m_SH.length (m_sl m_SH) Q 20 [l0, l1] (.inl (-1) :: st) (m_SH, f, g) := m_rst rfl rfl
theorem r10_20 {d : Nat} {Q : mQ} {l0 l1 : Option mV} {f : Nat → Nat → Int32} {g : Nat → Nat → Option Nat} {x : Int32} : m_R (m_E d) 10 m_SH.length (m_sl m_SH) Q 20 [l0, l1] [.inl x] (m_SH, f, g) = Q (some (.inl x)) (m_SH, f, g) := m_rret (i := .ireturn) rfl (m_st_ri.trans (m_ri1 (me := 10) (N := m_SH.length) (S := m_sl m_SH) (w := (m_SH, f, g)) rfl (m_b0 rfl)))
theorem r10_21 {d : Nat} {Q : mQ} {l0 l1 : Option mV} {st : mS} {f : Nat → Nat → Int32} {g : Nat → Nat → Option Nat} {x : Option Nat}  : m_R (m_E d) 10 m_SH.length (m_sl m_SH) Q 21 [some (.inr x), l1] st (m_SH, f, g) = m_R (m_E d) 10 m_SH.length (m_sl m_SH) Q 22 [some (.inr x), l1] (.inr x :: st) (m_SH, f, g) := m_rst rfl rfl
theorem r10_22 {d : Nat} {Q : mQ} {l0 l1 : Option mV} {st : mS} {f : Nat → Nat → Int32} {g : Nat → Nat → Option Nat} {k : Nat} (hs1 : m_kn k = 0) (hs2 : m_ln k = 0) : m_R (m_E d) 10 m_SH.length (m_sl m_SH) Q 22 [l0, l1] (.inr (some k) :: st) (m_SH, f, g) = m_R (m_E d) 10 m_SH.length (m_sl m_SH) Q 25 [l0, l1] (.inr (g k 1) :: st) (m_SH, f, g) := m_rst rfl (if_pos (m_sho hs1 hs2))
theorem r10_25 {d : Nat} {Q : mQ} {l0 l1 : Option mV} {st : mS} {f : Nat → Nat → Int32} {g : Nat → Nat → Option Nat} {x : Option Nat}  : m_R (m_E d) 10 m_SH.length (m_sl m_SH) Q 25 [some (.inr x), l1] st (m_SH, f, g) = m_R (m_E d) 10 m_SH.length (m_sl m_SH) Q 26 [some (.inr x), l1] (.inr x :: st) (m_SH, f, g) := m_rst rfl rfl
theorem r10_26 {d : Nat} {Q : mQ} {l0 l1 : Option mV} {st : mS} {f : Nat → Nat → Int32} {g : Nat → Nat → Option Nat} {k : Nat} (hs1 : m_kn k = 0) (hs2 : m_ln k = 0) : m_R (m_E d) 10 m_SH.length (m_sl m_SH) Q 26 [l0, l1] (.inr (some k) :: st) (m_SH, f, g) = m_R (m_E d) 10 m_SH.length (m_sl m_SH) Q 29 [l0, l1] (.inl (f k 2) :: st) (m_SH, f, g) := m_rst rfl (if_pos (m_sho hs1 hs2))
theorem r10_29 {d : Nat} {Q : mQ} {l0 l1 : Option mV} {st : mS} {f : Nat → Nat → Int32} {g : Nat → Nat → Option Nat} {k : Nat} {i : Int32} (hs1 : m_kn k = 3 ∨ m_kn k = 4) (hi : ¬ (i < 0 ∨ m_ln k ≤ i.toNatClampNeg)) : m_R (m_E d) 10 m_SH.length (m_sl m_SH) Q 29 [l0, l1] (.inl i :: .inr (some k) :: st) (m_SH, f, g) = m_R (m_E d) 10 m_SH.length (m_sl m_SH) Q 30 [l0, l1] (.inr (g k i.toNatClampNeg) :: st) (m_SH, f, g) := m_rst rfl (m_xa_of hs1 hi)
theorem r10_30 {d : Nat} {Q : mQ} {l0 l1 : Option mV} {st : mS} {f : Nat → Nat → Int32} {g : Nat → Nat → Option Nat} {x : Int32}  : m_R (m_E d) 10 m_SH.length (m_sl m_SH) Q 30 [l0, some (.inl x)] st (m_SH, f, g) = m_R (m_E d) 10 m_SH.length (m_sl m_SH) Q 31 [l0, some (.inl x)] (.inl x :: st) (m_SH, f, g) := m_rst rfl rfl
theorem r10_31 {d : Nat} {Q : mQ} {l0 l1 : Option mV} {st : mS} {f : Nat → Nat → Int32} {g : Nat → Nat → Option Nat} {k : Nat} {x : Int32} (hs1 : m_kn k = 0) (hs2 : m_ln k = 2) : m_R (m_E d) 10 m_SH.length (m_sl m_SH) Q 31 [l0, l1] (.inl x :: .inr (some k) :: st) (m_SH, f, g) = m_R (m_E d) 10 m_SH.length (m_sl m_SH) Q 34 [l0, l1] st (m_SH, m_si f k 0 x, g) := m_rst rfl (if_pos ⟨m_sho hs1 hs2, Or.inl rfl⟩)
theorem r10_34 {d : Nat} {Q : mQ} {l0 l1 : Option mV} {st : mS} {f : Nat → Nat → Int32} {g : Nat → Nat → Option Nat} {x : Option Nat}  : m_R (m_E d) 10 m_SH.length (m_sl m_SH) Q 34 [some (.inr x), l1] st (m_SH, f, g) = m_R (m_E d) 10 m_SH.length (m_sl m_SH) Q 35 [some (.inr x), l1] (.inr x :: st) (m_SH, f, g) := m_rst rfl rfl
theorem r10_35 {d : Nat} {Q : mQ} {l0 l1 : Option mV} {st : mS} {f : Nat → Nat → Int32} {g : Nat → Nat → Option Nat} {v : mV}  : m_R (m_E d) 10 m_SH.length (m_sl m_SH) Q 35 [l0, l1] (v :: st) (m_SH, f, g) = m_R (m_E d) 10 m_SH.length (m_sl m_SH) Q 36 [l0, l1] (v :: v :: st) (m_SH, f, g) := m_rst rfl rfl
theorem r10_36 {d : Nat} {Q : mQ} {l0 l1 : Option mV} {st : mS} {f : Nat → Nat → Int32} {g : Nat → Nat → Option Nat} {k : Nat} (hs1 : m_kn k = 0) (hs2 : m_ln k = 0) : m_R (m_E d) 10 m_SH.length (m_sl m_SH) Q 36 [l0, l1] (.inr (some k) :: st) (m_SH, f, g) = m_R (m_E d) 10 m_SH.length (m_sl m_SH) Q 39 [l0, l1] (.inl (f k 2) :: st) (m_SH, f, g) := m_rst rfl (if_pos (m_sho hs1 hs2))
theorem r10_39 {d : Nat} {Q : mQ} {l0 l1 : Option mV} {st : mS} {f : Nat → Nat → Int32} {g : Nat → Nat → Option Nat}  : m_R (m_E d) 10 m_SH.length (m_sl m_SH) Q 39 [l0, l1] st (m_SH, f, g) = m_R (m_E d) 10 m_SH.length (m_sl m_SH) Q 40 [l0, l1] (.inl 1 :: st) (m_SH, f, g) := m_rst rfl rfl
theorem r10_40 {d : Nat} {Q : mQ} {l0 l1 : Option mV} {st : mS} {f : Nat → Nat → Int32} {g : Nat → Nat → Option Nat} {x y : Int32}  : m_R (m_E d) 10 m_SH.length (m_sl m_SH) Q 40 [l0, l1] (.inl y :: .inl x :: st) (m_SH, f, g) = m_R (m_E d) 10 m_SH.length (m_sl m_SH) Q 41 [l0, l1] (.inl (x + y) :: st) (m_SH, f, g) := m_rst rfl rfl
theorem r10_41 {d : Nat} {Q : mQ} {l0 l1 : Option mV} {st : mS} {f : Nat → Nat → Int32} {g : Nat → Nat → Option Nat} {k : Nat} {x : Int32} (hs1 : m_kn k = 0) (hs2 : m_ln k = 0) : m_R (m_E d) 10 m_SH.length (m_sl m_SH) Q 41 [l0, l1] (.inl x :: .inr (some k) :: st) (m_SH, f, g) = m_R (m_E d) 10 m_SH.length (m_sl m_SH) Q 44 [l0, l1] st (m_SH, m_si f k 2 x, g) := m_rst rfl (if_pos ⟨m_sho hs1 hs2, Or.inl rfl⟩)
theorem r10_44 {d : Nat} {Q : mQ} {l0 l1 : Option mV} {st : mS} {f : Nat → Nat → Int32} {g : Nat → Nat → Option Nat} {x : Option Nat}  : m_R (m_E d) 10 m_SH.length (m_sl m_SH) Q 44 [some (.inr x), l1] st (m_SH, f, g) = m_R (m_E d) 10 m_SH.length (m_sl m_SH) Q 45 [some (.inr x), l1] (.inr x :: st) (m_SH, f, g) := m_rst rfl rfl
theorem r10_45 {d : Nat} {Q : mQ} {l0 l1 : Option mV} {st : mS} {f : Nat → Nat → Int32} {g : Nat → Nat → Option Nat} {k : Nat} (hs1 : m_kn k = 0) (hs2 : m_ln k = 0) : m_R (m_E d) 10 m_SH.length (m_sl m_SH) Q 45 [l0, l1] (.inr (some k) :: st) (m_SH, f, g) = m_R (m_E d) 10 m_SH.length (m_sl m_SH) Q 48 [l0, l1] (.inl (f k 2) :: st) (m_SH, f, g) := m_rst rfl (if_pos (m_sho hs1 hs2))
theorem r10_48 {d : Nat} {Q : mQ} {l0 l1 : Option mV} {st : mS} {f : Nat → Nat → Int32} {g : Nat → Nat → Option Nat}  : m_R (m_E d) 10 m_SH.length (m_sl m_SH) Q 48 [l0, l1] st (m_SH, f, g) = m_R (m_E d) 10 m_SH.length (m_sl m_SH) Q 49 [l0, l1] (.inl 1 :: st) (m_SH, f, g) := m_rst rfl rfl
theorem r10_49 {d : Nat} {Q : mQ} {l0 l1 : Option mV} {st : mS} {f : Nat → Nat → Int32} {g : Nat → Nat → Option Nat} {x y : Int32}  : m_R (m_E d) 10 m_SH.length (m_sl m_SH) Q 49 [l0, l1] (.inl y :: .inl x :: st) (m_SH, f, g) = m_R (m_E d) 10 m_SH.length (m_sl m_SH) Q 50 [l0, l1] (.inl (x - y) :: st) (m_SH, f, g) := m_rst rfl rfl
theorem r10_50 {d : Nat} {Q : mQ} {l0 l1 : Option mV} {f : Nat → Nat → Int32} {g : Nat → Nat → Option Nat} {x : Int32} : m_R (m_E d) 10 m_SH.length (m_sl m_SH) Q 50 [l0, l1] [.inl x] (m_SH, f, g) = Q (some (.inl x)) (m_SH, f, g) := m_rret (i := .ireturn) rfl (m_st_ri.trans (m_ri1 (me := 10) (N := m_SH.length) (S := m_sl m_SH) (w := (m_SH, f, g)) rfl (m_b0 rfl)))
/-! 11: Desk_rule -/
theorem r11_0 {d : Nat} {Q : mQ} {l0 l1 l2 l3 : Option mV} {st : mS} {f : Nat → Nat → Int32} {g : Nat → Nat → Option Nat} {x : Option Nat}  : m_R (m_E d) 11 m_SH.length (m_sl m_SH) Q 0 [some (.inr x), l1, l2, l3] st (m_SH, f, g) = m_R (m_E d) 11 m_SH.length (m_sl m_SH) Q 1 [some (.inr x), l1, l2, l3] (.inr x :: st) (m_SH, f, g) := m_rst rfl rfl
theorem r11_1 {d : Nat} {Q : mQ} {l0 l1 l2 l3 : Option mV} {st : mS} {f : Nat → Nat → Int32} {g : Nat → Nat → Option Nat} {x : Int32}  : m_R (m_E d) 11 m_SH.length (m_sl m_SH) Q 1 [l0, some (.inl x), l2, l3] st (m_SH, f, g) = m_R (m_E d) 11 m_SH.length (m_sl m_SH) Q 2 [l0, some (.inl x), l2, l3] (.inl x :: st) (m_SH, f, g) := m_rst rfl rfl
theorem r11_2 {d : Nat} {Q : mQ} {l0 l1 l2 l3 : Option mV} {st : mS} {f : Nat → Nat → Int32} {g : Nat → Nat → Option Nat} {v0 : mV} {k : Nat} (hs1 : m_kn k = 0) (hs2 : m_ln k = 0) (hst : st.length ≤ 8) : m_R (m_E d) 11 m_SH.length (m_sl m_SH) Q 2 [l0, l1, l2, l3] (v0 :: .inr (some k) :: st) (m_SH, f, g) = m_E d 12 [.inr (some k), v0] (m_SH, f, g) (fun r w => m_R (m_E d) 11 m_SH.length (m_sl m_SH) Q 5 [l0, l1, l2, l3] (r.toList ++ st) w) := m_rcall (rest := st) rfl (if_pos ⟨⟨by show 1 ≤ List.length (v0 :: .inr (some k) :: st); simp only [List.length_cons]; omega, rfl, hst, fun _ => m_sho hs1 hs2⟩, Nat.le_refl _, Nat.le_refl _⟩)
theorem r11_5 {d : Nat} {Q : mQ} {l0 l1 l2 l3 : Option mV} {st : mS} {f : Nat → Nat → Int32} {g : Nat → Nat → Option Nat} {x : Int32} : m_R (m_E d) 11 m_SH.length (m_sl m_SH) Q 5 [l0, l1, l2, l3] (.inl x :: st) (m_SH, f, g) = (if x = 0 then m_R (m_E d) 11 m_SH.length (m_sl m_SH) Q 37 [l0, l1, l2, l3] st (m_SH, f, g) else m_R (m_E d) 11 m_SH.length (m_sl m_SH) Q 8 [l0, l1, l2, l3] st (m_SH, f, g)) := m_rif rfl (o1 := some (.inl (37, [l0, l1, l2, l3], st, (m_SH, f, g)))) (o2 := some (.inl (8, [l0, l1, l2, l3], st, (m_SH, f, g)))) rfl
theorem r11_8 {d : Nat} {Q : mQ} {l0 l1 l2 l3 : Option mV} {st : mS} {f : Nat → Nat → Int32} {g : Nat → Nat → Option Nat} {x : Option Nat}  : m_R (m_E d) 11 m_SH.length (m_sl m_SH) Q 8 [some (.inr x), l1, l2, l3] st (m_SH, f, g) = m_R (m_E d) 11 m_SH.length (m_sl m_SH) Q 9 [some (.inr x), l1, l2, l3] (.inr x :: st) (m_SH, f, g) := m_rst rfl rfl
theorem r11_9 {d : Nat} {Q : mQ} {l0 l1 l2 l3 : Option mV} {st : mS} {f : Nat → Nat → Int32} {g : Nat → Nat → Option Nat} {k : Nat} (hs1 : m_kn k = 0) (hs2 : m_ln k = 0) : m_R (m_E d) 11 m_SH.length (m_sl m_SH) Q 9 [l0, l1, l2, l3] (.inr (some k) :: st) (m_SH, f, g) = m_R (m_E d) 11 m_SH.length (m_sl m_SH) Q 12 [l0, l1, l2, l3] (.inr (g k 0) :: st) (m_SH, f, g) := m_rst rfl (if_pos (m_sho hs1 hs2))
theorem r11_12 {d : Nat} {Q : mQ} {l0 l1 l2 l3 : Option mV} {st : mS} {f : Nat → Nat → Int32} {g : Nat → Nat → Option Nat} {x : Int32}  : m_R (m_E d) 11 m_SH.length (m_sl m_SH) Q 12 [l0, l1, some (.inl x), l3] st (m_SH, f, g) = m_R (m_E d) 11 m_SH.length (m_sl m_SH) Q 13 [l0, l1, some (.inl x), l3] (.inl x :: st) (m_SH, f, g) := m_rst rfl rfl
theorem r11_13 {d : Nat} {Q : mQ} {l0 l1 l2 l3 : Option mV} {st : mS} {f : Nat → Nat → Int32} {g : Nat → Nat → Option Nat} {v0 : mV} {k : Nat} (hs1 : m_kn k = 0) (hs2 : m_ln k = 1) (hst : st.length ≤ 8) : m_R (m_E d) 11 m_SH.length (m_sl m_SH) Q 13 [l0, l1, l2, l3] (v0 :: .inr (some k) :: st) (m_SH, f, g) = m_E d 8 [.inr (some k), v0] (m_SH, f, g) (fun r w => m_R (m_E d) 11 m_SH.length (m_sl m_SH) Q 16 [l0, l1, l2, l3] (r.toList ++ st) w) := m_rcall (rest := st) rfl (if_pos ⟨⟨by show 1 ≤ List.length (v0 :: .inr (some k) :: st); simp only [List.length_cons]; omega, rfl, hst, fun _ => m_sho hs1 hs2⟩, Nat.le_refl _, Nat.le_refl _⟩)
theorem r11_16 {d : Nat} {Q : mQ} {l0 l1 l2 l3 : Option mV} {st : mS} {f : Nat → Nat → Int32} {g : Nat → Nat → Option Nat} {x : Int32} : m_R (m_E d) 11 m_SH.length (m_sl m_SH) Q 16 [l0, l1, l2, l3] (.inl x :: st) (m_SH, f, g) = (if x = 0 then m_R (m_E d) 11 m_SH.length (m_sl m_SH) Q 37 [l0, l1, l2, l3] st (m_SH, f, g) else m_R (m_E d) 11 m_SH.length (m_sl m_SH) Q 19 [l0, l1, l2, l3] st (m_SH, f, g)) := m_rif rfl (o1 := some (.inl (37, [l0, l1, l2, l3], st, (m_SH, f, g)))) (o2 := some (.inl (19, [l0, l1, l2, l3], st, (m_SH, f, g)))) rfl
theorem r11_19 {d : Nat} {Q : mQ} {l0 l1 l2 l3 : Option mV} {st : mS} {f : Nat → Nat → Int32} {g : Nat → Nat → Option Nat} {x : Option Nat}  : m_R (m_E d) 11 m_SH.length (m_sl m_SH) Q 19 [some (.inr x), l1, l2, l3] st (m_SH, f, g) = m_R (m_E d) 11 m_SH.length (m_sl m_SH) Q 20 [some (.inr x), l1, l2, l3] (.inr x :: st) (m_SH, f, g) := m_rst rfl rfl
theorem r11_20 {d : Nat} {Q : mQ} {l0 l1 l2 l3 : Option mV} {st : mS} {f : Nat → Nat → Int32} {g : Nat → Nat → Option Nat} {k : Nat} (hs1 : m_kn k = 0) (hs2 : m_ln k = 0) : m_R (m_E d) 11 m_SH.length (m_sl m_SH) Q 20 [l0, l1, l2, l3] (.inr (some k) :: st) (m_SH, f, g) = m_R (m_E d) 11 m_SH.length (m_sl m_SH) Q 23 [l0, l1, l2, l3] (.inr (g k 1) :: st) (m_SH, f, g) := m_rst rfl (if_pos (m_sho hs1 hs2))
theorem r11_23 {d : Nat} {Q : mQ} {l0 l1 l2 l3 : Option mV} {st : mS} {f : Nat → Nat → Int32} {g : Nat → Nat → Option Nat} {x : Int32}  : m_R (m_E d) 11 m_SH.length (m_sl m_SH) Q 23 [l0, some (.inl x), l2, l3] st (m_SH, f, g) = m_R (m_E d) 11 m_SH.length (m_sl m_SH) Q 24 [l0, some (.inl x), l2, l3] (.inl x :: st) (m_SH, f, g) := m_rst rfl rfl
theorem r11_24 {d : Nat} {Q : mQ} {l0 l1 l2 l3 : Option mV} {st : mS} {f : Nat → Nat → Int32} {g : Nat → Nat → Option Nat} {k : Nat} {i : Int32} (hs1 : m_kn k = 3 ∨ m_kn k = 4) (hi : ¬ (i < 0 ∨ m_ln k ≤ i.toNatClampNeg)) : m_R (m_E d) 11 m_SH.length (m_sl m_SH) Q 24 [l0, l1, l2, l3] (.inl i :: .inr (some k) :: st) (m_SH, f, g) = m_R (m_E d) 11 m_SH.length (m_sl m_SH) Q 25 [l0, l1, l2, l3] (.inr (g k i.toNatClampNeg) :: st) (m_SH, f, g) := m_rst rfl (m_xa_of hs1 hi)
theorem r11_25 {d : Nat} {Q : mQ} {l0 l1 l2 l3 : Option mV} {st : mS} {f : Nat → Nat → Int32} {g : Nat → Nat → Option Nat} {x : Int32}  : m_R (m_E d) 11 m_SH.length (m_sl m_SH) Q 25 [l0, l1, some (.inl x), l3] st (m_SH, f, g) = m_R (m_E d) 11 m_SH.length (m_sl m_SH) Q 26 [l0, l1, some (.inl x), l3] (.inl x :: st) (m_SH, f, g) := m_rst rfl rfl
theorem r11_26 {d : Nat} {Q : mQ} {l0 l1 l2 l3 : Option mV} {st : mS} {f : Nat → Nat → Int32} {g : Nat → Nat → Option Nat} {x : Int32}  : m_R (m_E d) 11 m_SH.length (m_sl m_SH) Q 26 [l0, l1, l2, some (.inl x)] st (m_SH, f, g) = m_R (m_E d) 11 m_SH.length (m_sl m_SH) Q 27 [l0, l1, l2, some (.inl x)] (.inl x :: st) (m_SH, f, g) := m_rst rfl rfl
theorem r11_27 {d : Nat} {Q : mQ} {l0 l1 l2 l3 : Option mV} {st : mS} {f : Nat → Nat → Int32} {g : Nat → Nat → Option Nat} {v0 v1 : mV} {k : Nat} (hs1 : m_kn k = 0) (hs2 : m_ln k = 2) (hst : st.length ≤ 8) : m_R (m_E d) 11 m_SH.length (m_sl m_SH) Q 27 [l0, l1, l2, l3] (v1 :: v0 :: .inr (some k) :: st) (m_SH, f, g) = m_E d 13 [.inr (some k), v0, v1] (m_SH, f, g) (fun r w => m_R (m_E d) 11 m_SH.length (m_sl m_SH) Q 30 [l0, l1, l2, l3] (r.toList ++ st) w) := m_rcall (rest := st) rfl (if_pos ⟨⟨by show 2 ≤ List.length (v1 :: v0 :: .inr (some k) :: st); simp only [List.length_cons]; omega, rfl, hst, fun _ => m_sho hs1 hs2⟩, Nat.le_refl _, Nat.le_refl _⟩)
theorem r11_30 {d : Nat} {Q : mQ} {l0 l1 l2 l3 : Option mV} {st : mS} {f : Nat → Nat → Int32} {g : Nat → Nat → Option Nat} {x : Int32} : m_R (m_E d) 11 m_SH.length (m_sl m_SH) Q 30 [l0, l1, l2, l3] (.inl x :: st) (m_SH, f, g) = (if x = 0 then m_R (m_E d) 11 m_SH.length (m_sl m_SH) Q 37 [l0, l1, l2, l3] st (m_SH, f, g) else m_R (m_E d) 11 m_SH.length (m_sl m_SH) Q 33 [l0, l1, l2, l3] st (m_SH, f, g)) := m_rif rfl (o1 := some (.inl (37, [l0, l1, l2, l3], st, (m_SH, f, g)))) (o2 := some (.inl (33, [l0, l1, l2, l3], st, (m_SH, f, g)))) rfl
theorem r11_33 {d : Nat} {Q : mQ} {l0 l1 l2 l3 : Option mV} {st : mS} {f : Nat → Nat → Int32} {g : Nat → Nat → Option Nat}  : m_R (m_E d) 11 m_SH.length (m_sl m_SH) Q 33 [l0, l1, l2, l3] st (m_SH, f, g) = m_R (m_E d) 11 m_SH.length (m_sl m_SH) Q 34 [l0, l1, l2, l3] (.inl 1 :: st) (m_SH, f, g) := m_rst rfl rfl
theorem r11_34 {d : Nat} {Q : mQ} {l0 l1 l2 l3 : Option mV} {st : mS} {f : Nat → Nat → Int32} {g : Nat → Nat → Option Nat}  : m_R (m_E d) 11 m_SH.length (m_sl m_SH) Q 34 [l0, l1, l2, l3] st (m_SH, f, g) = m_R (m_E d) 11 m_SH.length (m_sl m_SH) Q 38 [l0, l1, l2, l3] st (m_SH, f, g) := m_rst rfl rfl
theorem r11_37 {d : Nat} {Q : mQ} {l0 l1 l2 l3 : Option mV} {st : mS} {f : Nat → Nat → Int32} {g : Nat → Nat → Option Nat}  : m_R (m_E d) 11 m_SH.length (m_sl m_SH) Q 37 [l0, l1, l2, l3] st (m_SH, f, g) = m_R (m_E d) 11 m_SH.length (m_sl m_SH) Q 38 [l0, l1, l2, l3] (.inl 0 :: st) (m_SH, f, g) := m_rst rfl rfl
theorem r11_38 {d : Nat} {Q : mQ} {l0 l1 l2 l3 : Option mV} {f : Nat → Nat → Int32} {g : Nat → Nat → Option Nat} {x : Int32} (hz : x = 0 ∨ x = 1) : m_R (m_E d) 11 m_SH.length (m_sl m_SH) Q 38 [l0, l1, l2, l3] [.inl x] (m_SH, f, g) = Q (some (.inl x)) (m_SH, f, g) := m_rret (i := .ireturn) rfl (m_st_ri.trans (m_ri2 (me := 11) (N := m_SH.length) (S := m_sl m_SH) (w := (m_SH, f, g)) rfl hz (m_b0 rfl)))
/-! 12: Desk_hasMethod -/
theorem r12_0 {d : Nat} {Q : mQ} {l0 l1 : Option mV} {st : mS} {f : Nat → Nat → Int32} {g : Nat → Nat → Option Nat} {x : Int32}  : m_R (m_E d) 12 m_SH.length (m_sl m_SH) Q 0 [l0, some (.inl x)] st (m_SH, f, g) = m_R (m_E d) 12 m_SH.length (m_sl m_SH) Q 1 [l0, some (.inl x)] (.inl x :: st) (m_SH, f, g) := m_rst rfl rfl
theorem r12_1 {d : Nat} {Q : mQ} {l0 l1 : Option mV} {st : mS} {f : Nat → Nat → Int32} {g : Nat → Nat → Option Nat} {x : Int32} : m_R (m_E d) 12 m_SH.length (m_sl m_SH) Q 1 [l0, l1] (.inl x :: st) (m_SH, f, g) = (if x < 0 then m_R (m_E d) 12 m_SH.length (m_sl m_SH) Q 16 [l0, l1] st (m_SH, f, g) else m_R (m_E d) 12 m_SH.length (m_sl m_SH) Q 4 [l0, l1] st (m_SH, f, g)) := m_rif rfl (o1 := some (.inl (16, [l0, l1], st, (m_SH, f, g)))) (o2 := some (.inl (4, [l0, l1], st, (m_SH, f, g)))) rfl
theorem r12_4 {d : Nat} {Q : mQ} {l0 l1 : Option mV} {st : mS} {f : Nat → Nat → Int32} {g : Nat → Nat → Option Nat} {x : Int32}  : m_R (m_E d) 12 m_SH.length (m_sl m_SH) Q 4 [l0, some (.inl x)] st (m_SH, f, g) = m_R (m_E d) 12 m_SH.length (m_sl m_SH) Q 5 [l0, some (.inl x)] (.inl x :: st) (m_SH, f, g) := m_rst rfl rfl
theorem r12_5 {d : Nat} {Q : mQ} {l0 l1 : Option mV} {st : mS} {f : Nat → Nat → Int32} {g : Nat → Nat → Option Nat} {x : Option Nat}  : m_R (m_E d) 12 m_SH.length (m_sl m_SH) Q 5 [some (.inr x), l1] st (m_SH, f, g) = m_R (m_E d) 12 m_SH.length (m_sl m_SH) Q 6 [some (.inr x), l1] (.inr x :: st) (m_SH, f, g) := m_rst rfl rfl
theorem r12_6 {d : Nat} {Q : mQ} {l0 l1 : Option mV} {st : mS} {f : Nat → Nat → Int32} {g : Nat → Nat → Option Nat} {k : Nat} (hs1 : m_kn k = 0) (hs2 : m_ln k = 0) : m_R (m_E d) 12 m_SH.length (m_sl m_SH) Q 6 [l0, l1] (.inr (some k) :: st) (m_SH, f, g) = m_R (m_E d) 12 m_SH.length (m_sl m_SH) Q 9 [l0, l1] (.inl (f k 2) :: st) (m_SH, f, g) := m_rst rfl (if_pos (m_sho hs1 hs2))
theorem r12_9 {d : Nat} {Q : mQ} {l0 l1 : Option mV} {st : mS} {f : Nat → Nat → Int32} {g : Nat → Nat → Option Nat} {x y : Int32} : m_R (m_E d) 12 m_SH.length (m_sl m_SH) Q 9 [l0, l1] (.inl y :: .inl x :: st) (m_SH, f, g) = (if y ≤ x then m_R (m_E d) 12 m_SH.length (m_sl m_SH) Q 16 [l0, l1] st (m_SH, f, g) else m_R (m_E d) 12 m_SH.length (m_sl m_SH) Q 12 [l0, l1] st (m_SH, f, g)) := m_rif rfl (o1 := some (.inl (16, [l0, l1], st, (m_SH, f, g)))) (o2 := some (.inl (12, [l0, l1], st, (m_SH, f, g)))) rfl
theorem r12_12 {d : Nat} {Q : mQ} {l0 l1 : Option mV} {st : mS} {f : Nat → Nat → Int32} {g : Nat → Nat → Option Nat}  : m_R (m_E d) 12 m_SH.length (m_sl m_SH) Q 12 [l0, l1] st (m_SH, f, g) = m_R (m_E d) 12 m_SH.length (m_sl m_SH) Q 13 [l0, l1] (.inl 1 :: st) (m_SH, f, g) := m_rst rfl rfl
theorem r12_13 {d : Nat} {Q : mQ} {l0 l1 : Option mV} {st : mS} {f : Nat → Nat → Int32} {g : Nat → Nat → Option Nat}  : m_R (m_E d) 12 m_SH.length (m_sl m_SH) Q 13 [l0, l1] st (m_SH, f, g) = m_R (m_E d) 12 m_SH.length (m_sl m_SH) Q 17 [l0, l1] st (m_SH, f, g) := m_rst rfl rfl
theorem r12_16 {d : Nat} {Q : mQ} {l0 l1 : Option mV} {st : mS} {f : Nat → Nat → Int32} {g : Nat → Nat → Option Nat}  : m_R (m_E d) 12 m_SH.length (m_sl m_SH) Q 16 [l0, l1] st (m_SH, f, g) = m_R (m_E d) 12 m_SH.length (m_sl m_SH) Q 17 [l0, l1] (.inl 0 :: st) (m_SH, f, g) := m_rst rfl rfl
theorem r12_17 {d : Nat} {Q : mQ} {l0 l1 : Option mV} {f : Nat → Nat → Int32} {g : Nat → Nat → Option Nat} {x : Int32} (hz : x = 0 ∨ x = 1) : m_R (m_E d) 12 m_SH.length (m_sl m_SH) Q 17 [l0, l1] [.inl x] (m_SH, f, g) = Q (some (.inl x)) (m_SH, f, g) := m_rret (i := .ireturn) rfl (m_st_ri.trans (m_ri2 (me := 12) (N := m_SH.length) (S := m_sl m_SH) (w := (m_SH, f, g)) rfl hz (m_b0 rfl)))
/-! 13: Plan_addRule -/
theorem r13_0 {d : Nat} {Q : mQ} {l0 l1 l2 : Option mV} {st : mS} {f : Nat → Nat → Int32} {g : Nat → Nat → Option Nat} {x : Option Nat}  : m_R (m_E d) 13 m_SH.length (m_sl m_SH) Q 0 [some (.inr x), l1, l2] st (m_SH, f, g) = m_R (m_E d) 13 m_SH.length (m_sl m_SH) Q 1 [some (.inr x), l1, l2] (.inr x :: st) (m_SH, f, g) := m_rst rfl rfl
theorem r13_1 {d : Nat} {Q : mQ} {l0 l1 l2 : Option mV} {st : mS} {f : Nat → Nat → Int32} {g : Nat → Nat → Option Nat} {k : Nat} (hs1 : m_kn k = 0) (hs2 : m_ln k = 2) : m_R (m_E d) 13 m_SH.length (m_sl m_SH) Q 1 [l0, l1, l2] (.inr (some k) :: st) (m_SH, f, g) = m_R (m_E d) 13 m_SH.length (m_sl m_SH) Q 4 [l0, l1, l2] (.inl (f k 3) :: st) (m_SH, f, g) := m_rst rfl (if_pos (m_sho hs1 hs2))
theorem r13_4 {d : Nat} {Q : mQ} {l0 l1 l2 : Option mV} {st : mS} {f : Nat → Nat → Int32} {g : Nat → Nat → Option Nat}  : m_R (m_E d) 13 m_SH.length (m_sl m_SH) Q 4 [l0, l1, l2] st (m_SH, f, g) = m_R (m_E d) 13 m_SH.length (m_sl m_SH) Q 5 [l0, l1, l2] (.inl 3 :: st) (m_SH, f, g) := m_rst rfl rfl
theorem r13_5 {d : Nat} {Q : mQ} {l0 l1 l2 : Option mV} {st : mS} {f : Nat → Nat → Int32} {g : Nat → Nat → Option Nat} {x y : Int32} : m_R (m_E d) 13 m_SH.length (m_sl m_SH) Q 5 [l0, l1, l2] (.inl y :: .inl x :: st) (m_SH, f, g) = (if x < y then m_R (m_E d) 13 m_SH.length (m_sl m_SH) Q 10 [l0, l1, l2] st (m_SH, f, g) else m_R (m_E d) 13 m_SH.length (m_sl m_SH) Q 8 [l0, l1, l2] st (m_SH, f, g)) := m_rif rfl (o1 := some (.inl (10, [l0, l1, l2], st, (m_SH, f, g)))) (o2 := some (.inl (8, [l0, l1, l2], st, (m_SH, f, g)))) rfl
theorem r13_8 {d : Nat} {Q : mQ} {l0 l1 l2 : Option mV} {st : mS} {f : Nat → Nat → Int32} {g : Nat → Nat → Option Nat}  : m_R (m_E d) 13 m_SH.length (m_sl m_SH) Q 8 [l0, l1, l2] st (m_SH, f, g) = m_R (m_E d) 13 m_SH.length (m_sl m_SH) Q 9 [l0, l1, l2] (.inl 0 :: st) (m_SH, f, g) := m_rst rfl rfl
theorem r13_9 {d : Nat} {Q : mQ} {l0 l1 l2 : Option mV} {f : Nat → Nat → Int32} {g : Nat → Nat → Option Nat} {x : Int32} (hz : x = 0 ∨ x = 1) : m_R (m_E d) 13 m_SH.length (m_sl m_SH) Q 9 [l0, l1, l2] [.inl x] (m_SH, f, g) = Q (some (.inl x)) (m_SH, f, g) := m_rret (i := .ireturn) rfl (m_st_ri.trans (m_ri2 (me := 13) (N := m_SH.length) (S := m_sl m_SH) (w := (m_SH, f, g)) rfl hz (m_b0 rfl)))
theorem r13_10 {d : Nat} {Q : mQ} {l0 l1 l2 : Option mV} {st : mS} {f : Nat → Nat → Int32} {g : Nat → Nat → Option Nat} {x : Option Nat}  : m_R (m_E d) 13 m_SH.length (m_sl m_SH) Q 10 [some (.inr x), l1, l2] st (m_SH, f, g) = m_R (m_E d) 13 m_SH.length (m_sl m_SH) Q 11 [some (.inr x), l1, l2] (.inr x :: st) (m_SH, f, g) := m_rst rfl rfl
theorem r13_11 {d : Nat} {Q : mQ} {l0 l1 l2 : Option mV} {st : mS} {f : Nat → Nat → Int32} {g : Nat → Nat → Option Nat} {k : Nat} (hs1 : m_kn k = 0) (hs2 : m_ln k = 2) : m_R (m_E d) 13 m_SH.length (m_sl m_SH) Q 11 [l0, l1, l2] (.inr (some k) :: st) (m_SH, f, g) = m_R (m_E d) 13 m_SH.length (m_sl m_SH) Q 14 [l0, l1, l2] (.inr (g k 1) :: st) (m_SH, f, g) := m_rst rfl (if_pos (m_sho hs1 hs2))
theorem r13_14 {d : Nat} {Q : mQ} {l0 l1 l2 : Option mV} {st : mS} {f : Nat → Nat → Int32} {g : Nat → Nat → Option Nat} {x : Option Nat}  : m_R (m_E d) 13 m_SH.length (m_sl m_SH) Q 14 [some (.inr x), l1, l2] st (m_SH, f, g) = m_R (m_E d) 13 m_SH.length (m_sl m_SH) Q 15 [some (.inr x), l1, l2] (.inr x :: st) (m_SH, f, g) := m_rst rfl rfl
theorem r13_15 {d : Nat} {Q : mQ} {l0 l1 l2 : Option mV} {st : mS} {f : Nat → Nat → Int32} {g : Nat → Nat → Option Nat} {k : Nat} (hs1 : m_kn k = 0) (hs2 : m_ln k = 2) : m_R (m_E d) 13 m_SH.length (m_sl m_SH) Q 15 [l0, l1, l2] (.inr (some k) :: st) (m_SH, f, g) = m_R (m_E d) 13 m_SH.length (m_sl m_SH) Q 18 [l0, l1, l2] (.inl (f k 3) :: st) (m_SH, f, g) := m_rst rfl (if_pos (m_sho hs1 hs2))
theorem r13_18 {d : Nat} {Q : mQ} {l0 l1 l2 : Option mV} {st : mS} {f : Nat → Nat → Int32} {g : Nat → Nat → Option Nat} {x : Int32}  : m_R (m_E d) 13 m_SH.length (m_sl m_SH) Q 18 [l0, some (.inl x), l2] st (m_SH, f, g) = m_R (m_E d) 13 m_SH.length (m_sl m_SH) Q 19 [l0, some (.inl x), l2] (.inl x :: st) (m_SH, f, g) := m_rst rfl rfl
theorem r13_19 {d : Nat} {Q : mQ} {l0 l1 l2 : Option mV} {st : mS} {f : Nat → Nat → Int32} {g : Nat → Nat → Option Nat} {k : Nat} {i x : Int32} (hs1 : m_kn k = 1) (hi : ¬ (i < 0 ∨ m_ln k ≤ i.toNatClampNeg)) : m_R (m_E d) 13 m_SH.length (m_sl m_SH) Q 19 [l0, l1, l2] (.inl x :: .inl i :: .inr (some k) :: st) (m_SH, f, g) = m_R (m_E d) 13 m_SH.length (m_sl m_SH) Q 20 [l0, l1, l2] st (m_SH, m_si f k i.toNatClampNeg x, g) := m_rst rfl (m_yi_of hs1 hi)
theorem r13_20 {d : Nat} {Q : mQ} {l0 l1 l2 : Option mV} {st : mS} {f : Nat → Nat → Int32} {g : Nat → Nat → Option Nat} {x : Option Nat}  : m_R (m_E d) 13 m_SH.length (m_sl m_SH) Q 20 [some (.inr x), l1, l2] st (m_SH, f, g) = m_R (m_E d) 13 m_SH.length (m_sl m_SH) Q 21 [some (.inr x), l1, l2] (.inr x :: st) (m_SH, f, g) := m_rst rfl rfl
theorem r13_21 {d : Nat} {Q : mQ} {l0 l1 l2 : Option mV} {st : mS} {f : Nat → Nat → Int32} {g : Nat → Nat → Option Nat} {k : Nat} (hs1 : m_kn k = 0) (hs2 : m_ln k = 2) : m_R (m_E d) 13 m_SH.length (m_sl m_SH) Q 21 [l0, l1, l2] (.inr (some k) :: st) (m_SH, f, g) = m_R (m_E d) 13 m_SH.length (m_sl m_SH) Q 24 [l0, l1, l2] (.inr (g k 2) :: st) (m_SH, f, g) := m_rst rfl (if_pos (m_sho hs1 hs2))
theorem r13_24 {d : Nat} {Q : mQ} {l0 l1 l2 : Option mV} {st : mS} {f : Nat → Nat → Int32} {g : Nat → Nat → Option Nat} {x : Option Nat}  : m_R (m_E d) 13 m_SH.length (m_sl m_SH) Q 24 [some (.inr x), l1, l2] st (m_SH, f, g) = m_R (m_E d) 13 m_SH.length (m_sl m_SH) Q 25 [some (.inr x), l1, l2] (.inr x :: st) (m_SH, f, g) := m_rst rfl rfl
theorem r13_25 {d : Nat} {Q : mQ} {l0 l1 l2 : Option mV} {st : mS} {f : Nat → Nat → Int32} {g : Nat → Nat → Option Nat} {k : Nat} (hs1 : m_kn k = 0) (hs2 : m_ln k = 2) : m_R (m_E d) 13 m_SH.length (m_sl m_SH) Q 25 [l0, l1, l2] (.inr (some k) :: st) (m_SH, f, g) = m_R (m_E d) 13 m_SH.length (m_sl m_SH) Q 28 [l0, l1, l2] (.inl (f k 3) :: st) (m_SH, f, g) := m_rst rfl (if_pos (m_sho hs1 hs2))
theorem r13_28 {d : Nat} {Q : mQ} {l0 l1 l2 : Option mV} {st : mS} {f : Nat → Nat → Int32} {g : Nat → Nat → Option Nat} {x : Int32}  : m_R (m_E d) 13 m_SH.length (m_sl m_SH) Q 28 [l0, l1, some (.inl x)] st (m_SH, f, g) = m_R (m_E d) 13 m_SH.length (m_sl m_SH) Q 29 [l0, l1, some (.inl x)] (.inl x :: st) (m_SH, f, g) := m_rst rfl rfl
theorem r13_29 {d : Nat} {Q : mQ} {l0 l1 l2 : Option mV} {st : mS} {f : Nat → Nat → Int32} {g : Nat → Nat → Option Nat} {k : Nat} {i x : Int32} (hs1 : m_kn k = 2) (hz : x = 0 ∨ x = 1) (hi : ¬ (i < 0 ∨ m_ln k ≤ i.toNatClampNeg)) : m_R (m_E d) 13 m_SH.length (m_sl m_SH) Q 29 [l0, l1, l2] (.inl x :: .inl i :: .inr (some k) :: st) (m_SH, f, g) = m_R (m_E d) 13 m_SH.length (m_sl m_SH) Q 30 [l0, l1, l2] st (m_SH, m_si f k i.toNatClampNeg x, g) := m_rst rfl (m_yb_of hs1 hz hi)
theorem r13_30 {d : Nat} {Q : mQ} {l0 l1 l2 : Option mV} {st : mS} {f : Nat → Nat → Int32} {g : Nat → Nat → Option Nat} {x : Option Nat}  : m_R (m_E d) 13 m_SH.length (m_sl m_SH) Q 30 [some (.inr x), l1, l2] st (m_SH, f, g) = m_R (m_E d) 13 m_SH.length (m_sl m_SH) Q 31 [some (.inr x), l1, l2] (.inr x :: st) (m_SH, f, g) := m_rst rfl rfl
theorem r13_31 {d : Nat} {Q : mQ} {l0 l1 l2 : Option mV} {st : mS} {f : Nat → Nat → Int32} {g : Nat → Nat → Option Nat} {v : mV}  : m_R (m_E d) 13 m_SH.length (m_sl m_SH) Q 31 [l0, l1, l2] (v :: st) (m_SH, f, g) = m_R (m_E d) 13 m_SH.length (m_sl m_SH) Q 32 [l0, l1, l2] (v :: v :: st) (m_SH, f, g) := m_rst rfl rfl
theorem r13_32 {d : Nat} {Q : mQ} {l0 l1 l2 : Option mV} {st : mS} {f : Nat → Nat → Int32} {g : Nat → Nat → Option Nat} {k : Nat} (hs1 : m_kn k = 0) (hs2 : m_ln k = 2) : m_R (m_E d) 13 m_SH.length (m_sl m_SH) Q 32 [l0, l1, l2] (.inr (some k) :: st) (m_SH, f, g) = m_R (m_E d) 13 m_SH.length (m_sl m_SH) Q 35 [l0, l1, l2] (.inl (f k 3) :: st) (m_SH, f, g) := m_rst rfl (if_pos (m_sho hs1 hs2))
theorem r13_35 {d : Nat} {Q : mQ} {l0 l1 l2 : Option mV} {st : mS} {f : Nat → Nat → Int32} {g : Nat → Nat → Option Nat}  : m_R (m_E d) 13 m_SH.length (m_sl m_SH) Q 35 [l0, l1, l2] st (m_SH, f, g) = m_R (m_E d) 13 m_SH.length (m_sl m_SH) Q 36 [l0, l1, l2] (.inl 1 :: st) (m_SH, f, g) := m_rst rfl rfl
theorem r13_36 {d : Nat} {Q : mQ} {l0 l1 l2 : Option mV} {st : mS} {f : Nat → Nat → Int32} {g : Nat → Nat → Option Nat} {x y : Int32}  : m_R (m_E d) 13 m_SH.length (m_sl m_SH) Q 36 [l0, l1, l2] (.inl y :: .inl x :: st) (m_SH, f, g) = m_R (m_E d) 13 m_SH.length (m_sl m_SH) Q 37 [l0, l1, l2] (.inl (x + y) :: st) (m_SH, f, g) := m_rst rfl rfl
theorem r13_37 {d : Nat} {Q : mQ} {l0 l1 l2 : Option mV} {st : mS} {f : Nat → Nat → Int32} {g : Nat → Nat → Option Nat} {k : Nat} {x : Int32} (hs1 : m_kn k = 0) (hs2 : m_ln k = 2) : m_R (m_E d) 13 m_SH.length (m_sl m_SH) Q 37 [l0, l1, l2] (.inl x :: .inr (some k) :: st) (m_SH, f, g) = m_R (m_E d) 13 m_SH.length (m_sl m_SH) Q 40 [l0, l1, l2] st (m_SH, m_si f k 3 x, g) := m_rst rfl (if_pos ⟨m_sho hs1 hs2, Or.inl rfl⟩)
theorem r13_40 {d : Nat} {Q : mQ} {l0 l1 l2 : Option mV} {st : mS} {f : Nat → Nat → Int32} {g : Nat → Nat → Option Nat}  : m_R (m_E d) 13 m_SH.length (m_sl m_SH) Q 40 [l0, l1, l2] st (m_SH, f, g) = m_R (m_E d) 13 m_SH.length (m_sl m_SH) Q 41 [l0, l1, l2] (.inl 1 :: st) (m_SH, f, g) := m_rst rfl rfl
theorem r13_41 {d : Nat} {Q : mQ} {l0 l1 l2 : Option mV} {f : Nat → Nat → Int32} {g : Nat → Nat → Option Nat} {x : Int32} (hz : x = 0 ∨ x = 1) : m_R (m_E d) 13 m_SH.length (m_sl m_SH) Q 41 [l0, l1, l2] [.inl x] (m_SH, f, g) = Q (some (.inl x)) (m_SH, f, g) := m_rret (i := .ireturn) rfl (m_st_ri.trans (m_ri2 (me := 13) (N := m_SH.length) (S := m_sl m_SH) (w := (m_SH, f, g)) rfl hz (m_b0 rfl)))
/-! 14: Desk_step -/
theorem r14_0 {d : Nat} {Q : mQ} {l0 l1 l2 l3 l4 : Option mV} {st : mS} {f : Nat → Nat → Int32} {g : Nat → Nat → Option Nat} {x : Option Nat}  : m_R (m_E d) 14 m_SH.length (m_sl m_SH) Q 0 [some (.inr x), l1, l2, l3, l4] st (m_SH, f, g) = m_R (m_E d) 14 m_SH.length (m_sl m_SH) Q 1 [some (.inr x), l1, l2, l3, l4] (.inr x :: st) (m_SH, f, g) := m_rst rfl rfl
theorem r14_1 {d : Nat} {Q : mQ} {l0 l1 l2 l3 l4 : Option mV} {st : mS} {f : Nat → Nat → Int32} {g : Nat → Nat → Option Nat} {x : Int32}  : m_R (m_E d) 14 m_SH.length (m_sl m_SH) Q 1 [l0, some (.inl x), l2, l3, l4] st (m_SH, f, g) = m_R (m_E d) 14 m_SH.length (m_sl m_SH) Q 2 [l0, some (.inl x), l2, l3, l4] (.inl x :: st) (m_SH, f, g) := m_rst rfl rfl
theorem r14_2 {d : Nat} {Q : mQ} {l0 l1 l2 l3 l4 : Option mV} {st : mS} {f : Nat → Nat → Int32} {g : Nat → Nat → Option Nat} {v0 : mV} {k : Nat} (hs1 : m_kn k = 0) (hs2 : m_ln k = 0) (hst : st.length ≤ 8) : m_R (m_E d) 14 m_SH.length (m_sl m_SH) Q 2 [l0, l1, l2, l3, l4] (v0 :: .inr (some k) :: st) (m_SH, f, g) = m_E d 12 [.inr (some k), v0] (m_SH, f, g) (fun r w => m_R (m_E d) 14 m_SH.length (m_sl m_SH) Q 5 [l0, l1, l2, l3, l4] (r.toList ++ st) w) := m_rcall (rest := st) rfl (if_pos ⟨⟨by show 1 ≤ List.length (v0 :: .inr (some k) :: st); simp only [List.length_cons]; omega, rfl, hst, fun _ => m_sho hs1 hs2⟩, Nat.le_refl _, Nat.le_refl _⟩)
theorem r14_5 {d : Nat} {Q : mQ} {l0 l1 l2 l3 l4 : Option mV} {st : mS} {f : Nat → Nat → Int32} {g : Nat → Nat → Option Nat} {x : Int32} : m_R (m_E d) 14 m_SH.length (m_sl m_SH) Q 5 [l0, l1, l2, l3, l4] (.inl x :: st) (m_SH, f, g) = (if x = 0 then m_R (m_E d) 14 m_SH.length (m_sl m_SH) Q 36 [l0, l1, l2, l3, l4] st (m_SH, f, g) else m_R (m_E d) 14 m_SH.length (m_sl m_SH) Q 8 [l0, l1, l2, l3, l4] st (m_SH, f, g)) := m_rif rfl (o1 := some (.inl (36, [l0, l1, l2, l3, l4], st, (m_SH, f, g)))) (o2 := some (.inl (8, [l0, l1, l2, l3, l4], st, (m_SH, f, g)))) rfl
theorem r14_8 {d : Nat} {Q : mQ} {l0 l1 l2 l3 l4 : Option mV} {st : mS} {f : Nat → Nat → Int32} {g : Nat → Nat → Option Nat} {x : Option Nat}  : m_R (m_E d) 14 m_SH.length (m_sl m_SH) Q 8 [some (.inr x), l1, l2, l3, l4] st (m_SH, f, g) = m_R (m_E d) 14 m_SH.length (m_sl m_SH) Q 9 [some (.inr x), l1, l2, l3, l4] (.inr x :: st) (m_SH, f, g) := m_rst rfl rfl
theorem r14_9 {d : Nat} {Q : mQ} {l0 l1 l2 l3 l4 : Option mV} {st : mS} {f : Nat → Nat → Int32} {g : Nat → Nat → Option Nat} {x : Int32}  : m_R (m_E d) 14 m_SH.length (m_sl m_SH) Q 9 [l0, some (.inl x), l2, l3, l4] st (m_SH, f, g) = m_R (m_E d) 14 m_SH.length (m_sl m_SH) Q 10 [l0, some (.inl x), l2, l3, l4] (.inl x :: st) (m_SH, f, g) := m_rst rfl rfl
theorem r14_10 {d : Nat} {Q : mQ} {l0 l1 l2 l3 l4 : Option mV} {st : mS} {f : Nat → Nat → Int32} {g : Nat → Nat → Option Nat} {x : Int32}  : m_R (m_E d) 14 m_SH.length (m_sl m_SH) Q 10 [l0, l1, some (.inl x), l3, l4] st (m_SH, f, g) = m_R (m_E d) 14 m_SH.length (m_sl m_SH) Q 11 [l0, l1, some (.inl x), l3, l4] (.inl x :: st) (m_SH, f, g) := m_rst rfl rfl
theorem r14_11 {d : Nat} {Q : mQ} {l0 l1 l2 l3 l4 : Option mV} {st : mS} {f : Nat → Nat → Int32} {g : Nat → Nat → Option Nat} {x : Int32}  : m_R (m_E d) 14 m_SH.length (m_sl m_SH) Q 11 [l0, l1, l2, some (.inl x), l4] st (m_SH, f, g) = m_R (m_E d) 14 m_SH.length (m_sl m_SH) Q 12 [l0, l1, l2, some (.inl x), l4] (.inl x :: st) (m_SH, f, g) := m_rst rfl rfl
theorem r14_12 {d : Nat} {Q : mQ} {l0 l1 l2 l3 l4 : Option mV} {st : mS} {f : Nat → Nat → Int32} {g : Nat → Nat → Option Nat} {x : Int32}  : m_R (m_E d) 14 m_SH.length (m_sl m_SH) Q 12 [l0, l1, l2, l3, some (.inl x)] st (m_SH, f, g) = m_R (m_E d) 14 m_SH.length (m_sl m_SH) Q 14 [l0, l1, l2, l3, some (.inl x)] (.inl x :: st) (m_SH, f, g) := m_rst rfl rfl
theorem r14_14 {d : Nat} {Q : mQ} {l0 l1 l2 l3 l4 : Option mV} {st : mS} {f : Nat → Nat → Int32} {g : Nat → Nat → Option Nat} {v0 v1 v2 v3 : mV} {k : Nat} (hs1 : m_kn k = 0) (hs2 : m_ln k = 0) (hst : st.length ≤ 8) : m_R (m_E d) 14 m_SH.length (m_sl m_SH) Q 14 [l0, l1, l2, l3, l4] (v3 :: v2 :: v1 :: v0 :: .inr (some k) :: st) (m_SH, f, g) = m_E d 15 [.inr (some k), v0, v1, v2, v3] (m_SH, f, g) (fun r w => m_R (m_E d) 14 m_SH.length (m_sl m_SH) Q 17 [l0, l1, l2, l3, l4] (r.toList ++ st) w) := m_rcall (rest := st) rfl (if_pos ⟨⟨by show 4 ≤ List.length (v3 :: v2 :: v1 :: v0 :: .inr (some k) :: st); simp only [List.length_cons]; omega, rfl, hst, fun _ => m_sho hs1 hs2⟩, Nat.le_refl _, Nat.le_refl _⟩)
theorem r14_17 {d : Nat} {Q : mQ} {l0 l1 l2 l3 l4 : Option mV} {st : mS} {f : Nat → Nat → Int32} {g : Nat → Nat → Option Nat} {x : Int32} : m_R (m_E d) 14 m_SH.length (m_sl m_SH) Q 17 [l0, l1, l2, l3, l4] (.inl x :: st) (m_SH, f, g) = (if x = 0 then m_R (m_E d) 14 m_SH.length (m_sl m_SH) Q 36 [l0, l1, l2, l3, l4] st (m_SH, f, g) else m_R (m_E d) 14 m_SH.length (m_sl m_SH) Q 20 [l0, l1, l2, l3, l4] st (m_SH, f, g)) := m_rif rfl (o1 := some (.inl (36, [l0, l1, l2, l3, l4], st, (m_SH, f, g)))) (o2 := some (.inl (20, [l0, l1, l2, l3, l4], st, (m_SH, f, g)))) rfl
theorem r14_20 {d : Nat} {Q : mQ} {l0 l1 l2 l3 l4 : Option mV} {st : mS} {f : Nat → Nat → Int32} {g : Nat → Nat → Option Nat} {x : Option Nat}  : m_R (m_E d) 14 m_SH.length (m_sl m_SH) Q 20 [some (.inr x), l1, l2, l3, l4] st (m_SH, f, g) = m_R (m_E d) 14 m_SH.length (m_sl m_SH) Q 21 [some (.inr x), l1, l2, l3, l4] (.inr x :: st) (m_SH, f, g) := m_rst rfl rfl
theorem r14_21 {d : Nat} {Q : mQ} {l0 l1 l2 l3 l4 : Option mV} {st : mS} {f : Nat → Nat → Int32} {g : Nat → Nat → Option Nat} {k : Nat} (hs1 : m_kn k = 0) (hs2 : m_ln k = 0) : m_R (m_E d) 14 m_SH.length (m_sl m_SH) Q 21 [l0, l1, l2, l3, l4] (.inr (some k) :: st) (m_SH, f, g) = m_R (m_E d) 14 m_SH.length (m_sl m_SH) Q 24 [l0, l1, l2, l3, l4] (.inr (g k 1) :: st) (m_SH, f, g) := m_rst rfl (if_pos (m_sho hs1 hs2))
theorem r14_24 {d : Nat} {Q : mQ} {l0 l1 l2 l3 l4 : Option mV} {st : mS} {f : Nat → Nat → Int32} {g : Nat → Nat → Option Nat} {x : Int32}  : m_R (m_E d) 14 m_SH.length (m_sl m_SH) Q 24 [l0, some (.inl x), l2, l3, l4] st (m_SH, f, g) = m_R (m_E d) 14 m_SH.length (m_sl m_SH) Q 25 [l0, some (.inl x), l2, l3, l4] (.inl x :: st) (m_SH, f, g) := m_rst rfl rfl
theorem r14_25 {d : Nat} {Q : mQ} {l0 l1 l2 l3 l4 : Option mV} {st : mS} {f : Nat → Nat → Int32} {g : Nat → Nat → Option Nat} {k : Nat} {i : Int32} (hs1 : m_kn k = 3 ∨ m_kn k = 4) (hi : ¬ (i < 0 ∨ m_ln k ≤ i.toNatClampNeg)) : m_R (m_E d) 14 m_SH.length (m_sl m_SH) Q 25 [l0, l1, l2, l3, l4] (.inl i :: .inr (some k) :: st) (m_SH, f, g) = m_R (m_E d) 14 m_SH.length (m_sl m_SH) Q 26 [l0, l1, l2, l3, l4] (.inr (g k i.toNatClampNeg) :: st) (m_SH, f, g) := m_rst rfl (m_xa_of hs1 hi)
theorem r14_26 {d : Nat} {Q : mQ} {l0 l1 l2 l3 l4 : Option mV} {st : mS} {f : Nat → Nat → Int32} {g : Nat → Nat → Option Nat} {x : Int32}  : m_R (m_E d) 14 m_SH.length (m_sl m_SH) Q 26 [l0, l1, some (.inl x), l3, l4] st (m_SH, f, g) = m_R (m_E d) 14 m_SH.length (m_sl m_SH) Q 27 [l0, l1, some (.inl x), l3, l4] (.inl x :: st) (m_SH, f, g) := m_rst rfl rfl
theorem r14_27 {d : Nat} {Q : mQ} {l0 l1 l2 l3 l4 : Option mV} {st : mS} {f : Nat → Nat → Int32} {g : Nat → Nat → Option Nat} {x : Int32}  : m_R (m_E d) 14 m_SH.length (m_sl m_SH) Q 27 [l0, l1, l2, some (.inl x), l4] st (m_SH, f, g) = m_R (m_E d) 14 m_SH.length (m_sl m_SH) Q 28 [l0, l1, l2, some (.inl x), l4] (.inl x :: st) (m_SH, f, g) := m_rst rfl rfl
theorem r14_28 {d : Nat} {Q : mQ} {l0 l1 l2 l3 l4 : Option mV} {st : mS} {f : Nat → Nat → Int32} {g : Nat → Nat → Option Nat} {x : Int32}  : m_R (m_E d) 14 m_SH.length (m_sl m_SH) Q 28 [l0, l1, l2, l3, some (.inl x)] st (m_SH, f, g) = m_R (m_E d) 14 m_SH.length (m_sl m_SH) Q 30 [l0, l1, l2, l3, some (.inl x)] (.inl x :: st) (m_SH, f, g) := m_rst rfl rfl
theorem r14_30 {d : Nat} {Q : mQ} {l0 l1 l2 l3 l4 : Option mV} {st : mS} {f : Nat → Nat → Int32} {g : Nat → Nat → Option Nat} {v0 v1 v2 : mV} {k : Nat} (hs1 : m_kn k = 0) (hs2 : m_ln k = 2) (hst : st.length ≤ 8) : m_R (m_E d) 14 m_SH.length (m_sl m_SH) Q 30 [l0, l1, l2, l3, l4] (v2 :: v1 :: v0 :: .inr (some k) :: st) (m_SH, f, g) = m_E d 17 [.inr (some k), v0, v1, v2] (m_SH, f, g) (fun r w => m_R (m_E d) 14 m_SH.length (m_sl m_SH) Q 33 [l0, l1, l2, l3, l4] (r.toList ++ st) w) := m_rcall (rest := st) rfl (if_pos ⟨⟨by show 3 ≤ List.length (v2 :: v1 :: v0 :: .inr (some k) :: st); simp only [List.length_cons]; omega, rfl, hst, fun _ => m_sho hs1 hs2⟩, Nat.le_refl _, Nat.le_refl _⟩)
theorem r14_33 {d : Nat} {Q : mQ} {l0 l1 l2 l3 l4 : Option mV} {st : mS} {f : Nat → Nat → Int32} {g : Nat → Nat → Option Nat}  : m_R (m_E d) 14 m_SH.length (m_sl m_SH) Q 33 [l0, l1, l2, l3, l4] st (m_SH, f, g) = m_R (m_E d) 14 m_SH.length (m_sl m_SH) Q 37 [l0, l1, l2, l3, l4] st (m_SH, f, g) := m_rst rfl rfl
theorem r14_36 {d : Nat} {Q : mQ} {l0 l1 l2 l3 l4 : Option mV} {st : mS} {f : Nat → Nat → Int32} {g : Nat → Nat → Option Nat}  : m_R (m_E d) 14 m_SH.length (m_sl m_SH) Q 36 [l0, l1, l2, l3, l4] st (m_SH, f, g) = m_R (m_E d) 14 m_SH.length (m_sl m_SH) Q 37 [l0, l1, l2, l3, l4] (.inl (-1) :: st) (m_SH, f, g) := m_rst rfl rfl
theorem r14_37 {d : Nat} {Q : mQ} {l0 l1 l2 l3 l4 : Option mV} {f : Nat → Nat → Int32} {g : Nat → Nat → Option Nat} {x : Int32} : m_R (m_E d) 14 m_SH.length (m_sl m_SH) Q 37 [l0, l1, l2, l3, l4] [.inl x] (m_SH, f, g) = Q (some (.inl x)) (m_SH, f, g) := m_rret (i := .ireturn) rfl (m_st_ri.trans (m_ri1 (me := 14) (N := m_SH.length) (S := m_sl m_SH) (w := (m_SH, f, g)) rfl (m_b0 rfl)))
/-! 15: Desk_fits -/
theorem r15_0 {d : Nat} {Q : mQ} {l0 l1 l2 l3 l4 : Option mV} {st : mS} {f : Nat → Nat → Int32} {g : Nat → Nat → Option Nat} {x : Int32}  : m_R (m_E d) 15 m_SH.length (m_sl m_SH) Q 0 [l0, l1, some (.inl x), l3, l4] st (m_SH, f, g) = m_R (m_E d) 15 m_SH.length (m_sl m_SH) Q 1 [l0, l1, some (.inl x), l3, l4] (.inl x :: st) (m_SH, f, g) := m_rst rfl rfl
theorem r15_1 {d : Nat} {Q : mQ} {l0 l1 l2 l3 l4 : Option mV} {st : mS} {f : Nat → Nat → Int32} {g : Nat → Nat → Option Nat} {x : Int32} : m_R (m_E d) 15 m_SH.length (m_sl m_SH) Q 1 [l0, l1, l2, l3, l4] (.inl x :: st) (m_SH, f, g) = (if x = 0 then m_R (m_E d) 15 m_SH.length (m_sl m_SH) Q 44 [l0, l1, l2, l3, l4] st (m_SH, f, g) else if x = 1 then m_R (m_E d) 15 m_SH.length (m_sl m_SH) Q 44 [l0, l1, l2, l3, l4] st (m_SH, f, g) else if x = 2 then m_R (m_E d) 15 m_SH.length (m_sl m_SH) Q 44 [l0, l1, l2, l3, l4] st (m_SH, f, g) else if x = 3 then m_R (m_E d) 15 m_SH.length (m_sl m_SH) Q 49 [l0, l1, l2, l3, l4] st (m_SH, f, g) else if x = 4 then m_R (m_E d) 15 m_SH.length (m_sl m_SH) Q 82 [l0, l1, l2, l3, l4] st (m_SH, f, g) else if x = 5 then m_R (m_E d) 15 m_SH.length (m_sl m_SH) Q 91 [l0, l1, l2, l3, l4] st (m_SH, f, g) else if x = 6 then m_R (m_E d) 15 m_SH.length (m_sl m_SH) Q 93 [l0, l1, l2, l3, l4] st (m_SH, f, g) else m_R (m_E d) 15 m_SH.length (m_sl m_SH) Q 120 [l0, l1, l2, l3, l4] st (m_SH, f, g)) := by
  by_cases h0 : x = 0
  · subst h0
    rw [if_pos rfl]
    exact m_rst rfl rfl
  rw [if_neg h0]
  by_cases h1 : x = 1
  · subst h1
    rw [if_pos rfl]
    exact m_rst rfl rfl
  rw [if_neg h1]
  by_cases h2 : x = 2
  · subst h2
    rw [if_pos rfl]
    exact m_rst rfl rfl
  rw [if_neg h2]
  by_cases h3 : x = 3
  · subst h3
    rw [if_pos rfl]
    exact m_rst rfl rfl
  rw [if_neg h3]
  by_cases h4 : x = 4
  · subst h4
    rw [if_pos rfl]
    exact m_rst rfl rfl
  rw [if_neg h4]
  by_cases h5 : x = 5
  · subst h5
    rw [if_pos rfl]
    exact m_rst rfl rfl
  rw [if_neg h5]
  by_cases h6 : x = 6
  · subst h6
    rw [if_pos rfl]
    exact m_rst rfl rfl
  rw [if_neg h6]
  have q0 : x.toInt ≠ 0 := fun h => h0 (Int32.toInt_inj.mp h)
  have q1 : x.toInt ≠ 1 := fun h => h1 (Int32.toInt_inj.mp h)
  have q2 : x.toInt ≠ 2 := fun h => h2 (Int32.toInt_inj.mp h)
  have q3 : x.toInt ≠ 3 := fun h => h3 (Int32.toInt_inj.mp h)
  have q4 : x.toInt ≠ 4 := fun h => h4 (Int32.toInt_inj.mp h)
  have q5 : x.toInt ≠ 5 := fun h => h5 (Int32.toInt_inj.mp h)
  have q6 : x.toInt ≠ 6 := fun h => h6 (Int32.toInt_inj.mp h)
  exact m_rst rfl (by show (if x.toInt < 0 ∨ 6 < x.toInt then _ else _) = _; rw [if_pos (by omega)]; rfl)
theorem r15_44 {d : Nat} {Q : mQ} {l0 l1 l2 l3 l4 : Option mV} {st : mS} {f : Nat → Nat → Int32} {g : Nat → Nat → Option Nat} {x : Int32}  : m_R (m_E d) 15 m_SH.length (m_sl m_SH) Q 44 [l0, l1, l2, some (.inl x), l4] st (m_SH, f, g) = m_R (m_E d) 15 m_SH.length (m_sl m_SH) Q 45 [l0, l1, l2, some (.inl x), l4] (.inl x :: st) (m_SH, f, g) := m_rst rfl rfl
theorem r15_45 {d : Nat} {Q : mQ} {l0 l1 l2 l3 l4 : Option mV} {st : mS} {f : Nat → Nat → Int32} {g : Nat → Nat → Option Nat} {v0 : mV} (hst : st.length ≤ 8) : m_R (m_E d) 15 m_SH.length (m_sl m_SH) Q 45 [l0, l1, l2, l3, l4] (v0 :: st) (m_SH, f, g) = m_E d 16 [v0] (m_SH, f, g) (fun r w => m_R (m_E d) 15 m_SH.length (m_sl m_SH) Q 48 [l0, l1, l2, l3, l4] (r.toList ++ st) w) := m_rcall (rest := st) rfl (if_pos ⟨⟨by show 1 ≤ List.length (v0 :: st); simp only [List.length_cons]; omega, rfl, hst⟩, Nat.le_refl _, Nat.le_refl _⟩)
theorem r15_48 {d : Nat} {Q : mQ} {l0 l1 l2 l3 l4 : Option mV} {f : Nat → Nat → Int32} {g : Nat → Nat → Option Nat} {x : Int32} (hz : x = 0 ∨ x = 1) : m_R (m_E d) 15 m_SH.length (m_sl m_SH) Q 48 [l0, l1, l2, l3, l4] [.inl x] (m_SH, f, g) = Q (some (.inl x)) (m_SH, f, g) := m_rret (i := .ireturn) rfl (m_st_ri.trans (m_ri2 (me := 15) (N := m_SH.length) (S := m_sl m_SH) (w := (m_SH, f, g)) rfl hz (m_b0 rfl)))
theorem r15_49 {d : Nat} {Q : mQ} {l0 l1 l2 l3 l4 : Option mV} {st : mS} {f : Nat → Nat → Int32} {g : Nat → Nat → Option Nat} {x : Int32}  : m_R (m_E d) 15 m_SH.length (m_sl m_SH) Q 49 [l0, l1, l2, some (.inl x), l4] st (m_SH, f, g) = m_R (m_E d) 15 m_SH.length (m_sl m_SH) Q 50 [l0, l1, l2, some (.inl x), l4] (.inl x :: st) (m_SH, f, g) := m_rst rfl rfl
theorem r15_50 {d : Nat} {Q : mQ} {l0 l1 l2 l3 l4 : Option mV} {st : mS} {f : Nat → Nat → Int32} {g : Nat → Nat → Option Nat} {x : Int32} : m_R (m_E d) 15 m_SH.length (m_sl m_SH) Q 50 [l0, l1, l2, l3, l4] (.inl x :: st) (m_SH, f, g) = (if x < 0 then m_R (m_E d) 15 m_SH.length (m_sl m_SH) Q 80 [l0, l1, l2, l3, l4] st (m_SH, f, g) else m_R (m_E d) 15 m_SH.length (m_sl m_SH) Q 53 [l0, l1, l2, l3, l4] st (m_SH, f, g)) := m_rif rfl (o1 := some (.inl (80, [l0, l1, l2, l3, l4], st, (m_SH, f, g)))) (o2 := some (.inl (53, [l0, l1, l2, l3, l4], st, (m_SH, f, g)))) rfl
theorem r15_53 {d : Nat} {Q : mQ} {l0 l1 l2 l3 l4 : Option mV} {st : mS} {f : Nat → Nat → Int32} {g : Nat → Nat → Option Nat} {x : Int32}  : m_R (m_E d) 15 m_SH.length (m_sl m_SH) Q 53 [l0, l1, l2, some (.inl x), l4] st (m_SH, f, g) = m_R (m_E d) 15 m_SH.length (m_sl m_SH) Q 54 [l0, l1, l2, some (.inl x), l4] (.inl x :: st) (m_SH, f, g) := m_rst rfl rfl
theorem r15_54 {d : Nat} {Q : mQ} {l0 l1 l2 l3 l4 : Option mV} {st : mS} {f : Nat → Nat → Int32} {g : Nat → Nat → Option Nat} {x : Int32}  : m_R (m_E d) 15 m_SH.length (m_sl m_SH) Q 54 [l0, some (.inl x), l2, l3, l4] st (m_SH, f, g) = m_R (m_E d) 15 m_SH.length (m_sl m_SH) Q 55 [l0, some (.inl x), l2, l3, l4] (.inl x :: st) (m_SH, f, g) := m_rst rfl rfl
theorem r15_55 {d : Nat} {Q : mQ} {l0 l1 l2 l3 l4 : Option mV} {st : mS} {f : Nat → Nat → Int32} {g : Nat → Nat → Option Nat} {x y : Int32} : m_R (m_E d) 15 m_SH.length (m_sl m_SH) Q 55 [l0, l1, l2, l3, l4] (.inl y :: .inl x :: st) (m_SH, f, g) = (if y ≤ x then m_R (m_E d) 15 m_SH.length (m_sl m_SH) Q 80 [l0, l1, l2, l3, l4] st (m_SH, f, g) else m_R (m_E d) 15 m_SH.length (m_sl m_SH) Q 58 [l0, l1, l2, l3, l4] st (m_SH, f, g)) := m_rif rfl (o1 := some (.inl (80, [l0, l1, l2, l3, l4], st, (m_SH, f, g)))) (o2 := some (.inl (58, [l0, l1, l2, l3, l4], st, (m_SH, f, g)))) rfl
theorem r15_58 {d : Nat} {Q : mQ} {l0 l1 l2 l3 l4 : Option mV} {st : mS} {f : Nat → Nat → Int32} {g : Nat → Nat → Option Nat} {x : Int32}  : m_R (m_E d) 15 m_SH.length (m_sl m_SH) Q 58 [l0, l1, l2, l3, some (.inl x)] st (m_SH, f, g) = m_R (m_E d) 15 m_SH.length (m_sl m_SH) Q 60 [l0, l1, l2, l3, some (.inl x)] (.inl x :: st) (m_SH, f, g) := m_rst rfl rfl
theorem r15_60 {d : Nat} {Q : mQ} {l0 l1 l2 l3 l4 : Option mV} {st : mS} {f : Nat → Nat → Int32} {g : Nat → Nat → Option Nat}  : m_R (m_E d) 15 m_SH.length (m_sl m_SH) Q 60 [l0, l1, l2, l3, l4] st (m_SH, f, g) = m_R (m_E d) 15 m_SH.length (m_sl m_SH) Q 61 [l0, l1, l2, l3, l4] (.inl (-1) :: st) (m_SH, f, g) := m_rst rfl rfl
theorem r15_61 {d : Nat} {Q : mQ} {l0 l1 l2 l3 l4 : Option mV} {st : mS} {f : Nat → Nat → Int32} {g : Nat → Nat → Option Nat} {x y : Int32} : m_R (m_E d) 15 m_SH.length (m_sl m_SH) Q 61 [l0, l1, l2, l3, l4] (.inl y :: .inl x :: st) (m_SH, f, g) = (if x = y then m_R (m_E d) 15 m_SH.length (m_sl m_SH) Q 76 [l0, l1, l2, l3, l4] st (m_SH, f, g) else m_R (m_E d) 15 m_SH.length (m_sl m_SH) Q 64 [l0, l1, l2, l3, l4] st (m_SH, f, g)) := m_rif rfl (o1 := some (.inl (76, [l0, l1, l2, l3, l4], st, (m_SH, f, g)))) (o2 := some (.inl (64, [l0, l1, l2, l3, l4], st, (m_SH, f, g)))) rfl
theorem r15_64 {d : Nat} {Q : mQ} {l0 l1 l2 l3 l4 : Option mV} {st : mS} {f : Nat → Nat → Int32} {g : Nat → Nat → Option Nat} {x : Option Nat}  : m_R (m_E d) 15 m_SH.length (m_sl m_SH) Q 64 [some (.inr x), l1, l2, l3, l4] st (m_SH, f, g) = m_R (m_E d) 15 m_SH.length (m_sl m_SH) Q 65 [some (.inr x), l1, l2, l3, l4] (.inr x :: st) (m_SH, f, g) := m_rst rfl rfl
theorem r15_65 {d : Nat} {Q : mQ} {l0 l1 l2 l3 l4 : Option mV} {st : mS} {f : Nat → Nat → Int32} {g : Nat → Nat → Option Nat} {k : Nat} (hs1 : m_kn k = 0) (hs2 : m_ln k = 0) : m_R (m_E d) 15 m_SH.length (m_sl m_SH) Q 65 [l0, l1, l2, l3, l4] (.inr (some k) :: st) (m_SH, f, g) = m_R (m_E d) 15 m_SH.length (m_sl m_SH) Q 68 [l0, l1, l2, l3, l4] (.inr (g k 0) :: st) (m_SH, f, g) := m_rst rfl (if_pos (m_sho hs1 hs2))
theorem r15_68 {d : Nat} {Q : mQ} {l0 l1 l2 l3 l4 : Option mV} {st : mS} {f : Nat → Nat → Int32} {g : Nat → Nat → Option Nat} {x : Int32}  : m_R (m_E d) 15 m_SH.length (m_sl m_SH) Q 68 [l0, l1, l2, l3, some (.inl x)] st (m_SH, f, g) = m_R (m_E d) 15 m_SH.length (m_sl m_SH) Q 70 [l0, l1, l2, l3, some (.inl x)] (.inl x :: st) (m_SH, f, g) := m_rst rfl rfl
theorem r15_70 {d : Nat} {Q : mQ} {l0 l1 l2 l3 l4 : Option mV} {st : mS} {f : Nat → Nat → Int32} {g : Nat → Nat → Option Nat} {v0 : mV} {k : Nat} (hs1 : m_kn k = 0) (hs2 : m_ln k = 1) (hst : st.length ≤ 8) : m_R (m_E d) 15 m_SH.length (m_sl m_SH) Q 70 [l0, l1, l2, l3, l4] (v0 :: .inr (some k) :: st) (m_SH, f, g) = m_E d 8 [.inr (some k), v0] (m_SH, f, g) (fun r w => m_R (m_E d) 15 m_SH.length (m_sl m_SH) Q 73 [l0, l1, l2, l3, l4] (r.toList ++ st) w) := m_rcall (rest := st) rfl (if_pos ⟨⟨by show 1 ≤ List.length (v0 :: .inr (some k) :: st); simp only [List.length_cons]; omega, rfl, hst, fun _ => m_sho hs1 hs2⟩, Nat.le_refl _, Nat.le_refl _⟩)
theorem r15_73 {d : Nat} {Q : mQ} {l0 l1 l2 l3 l4 : Option mV} {st : mS} {f : Nat → Nat → Int32} {g : Nat → Nat → Option Nat} {x : Int32} : m_R (m_E d) 15 m_SH.length (m_sl m_SH) Q 73 [l0, l1, l2, l3, l4] (.inl x :: st) (m_SH, f, g) = (if x = 0 then m_R (m_E d) 15 m_SH.length (m_sl m_SH) Q 80 [l0, l1, l2, l3, l4] st (m_SH, f, g) else m_R (m_E d) 15 m_SH.length (m_sl m_SH) Q 76 [l0, l1, l2, l3, l4] st (m_SH, f, g)) := m_rif rfl (o1 := some (.inl (80, [l0, l1, l2, l3, l4], st, (m_SH, f, g)))) (o2 := some (.inl (76, [l0, l1, l2, l3, l4], st, (m_SH, f, g)))) rfl
theorem r15_76 {d : Nat} {Q : mQ} {l0 l1 l2 l3 l4 : Option mV} {st : mS} {f : Nat → Nat → Int32} {g : Nat → Nat → Option Nat}  : m_R (m_E d) 15 m_SH.length (m_sl m_SH) Q 76 [l0, l1, l2, l3, l4] st (m_SH, f, g) = m_R (m_E d) 15 m_SH.length (m_sl m_SH) Q 77 [l0, l1, l2, l3, l4] (.inl 1 :: st) (m_SH, f, g) := m_rst rfl rfl
theorem r15_77 {d : Nat} {Q : mQ} {l0 l1 l2 l3 l4 : Option mV} {st : mS} {f : Nat → Nat → Int32} {g : Nat → Nat → Option Nat}  : m_R (m_E d) 15 m_SH.length (m_sl m_SH) Q 77 [l0, l1, l2, l3, l4] st (m_SH, f, g) = m_R (m_E d) 15 m_SH.length (m_sl m_SH) Q 81 [l0, l1, l2, l3, l4] st (m_SH, f, g) := m_rst rfl rfl
theorem r15_80 {d : Nat} {Q : mQ} {l0 l1 l2 l3 l4 : Option mV} {st : mS} {f : Nat → Nat → Int32} {g : Nat → Nat → Option Nat}  : m_R (m_E d) 15 m_SH.length (m_sl m_SH) Q 80 [l0, l1, l2, l3, l4] st (m_SH, f, g) = m_R (m_E d) 15 m_SH.length (m_sl m_SH) Q 81 [l0, l1, l2, l3, l4] (.inl 0 :: st) (m_SH, f, g) := m_rst rfl rfl
theorem r15_81 {d : Nat} {Q : mQ} {l0 l1 l2 l3 l4 : Option mV} {f : Nat → Nat → Int32} {g : Nat → Nat → Option Nat} {x : Int32} (hz : x = 0 ∨ x = 1) : m_R (m_E d) 15 m_SH.length (m_sl m_SH) Q 81 [l0, l1, l2, l3, l4] [.inl x] (m_SH, f, g) = Q (some (.inl x)) (m_SH, f, g) := m_rret (i := .ireturn) rfl (m_st_ri.trans (m_ri2 (me := 15) (N := m_SH.length) (S := m_sl m_SH) (w := (m_SH, f, g)) rfl hz (m_b0 rfl)))
theorem r15_82 {d : Nat} {Q : mQ} {l0 l1 l2 l3 l4 : Option mV} {st : mS} {f : Nat → Nat → Int32} {g : Nat → Nat → Option Nat} {x : Option Nat}  : m_R (m_E d) 15 m_SH.length (m_sl m_SH) Q 82 [some (.inr x), l1, l2, l3, l4] st (m_SH, f, g) = m_R (m_E d) 15 m_SH.length (m_sl m_SH) Q 83 [some (.inr x), l1, l2, l3, l4] (.inr x :: st) (m_SH, f, g) := m_rst rfl rfl
theorem r15_83 {d : Nat} {Q : mQ} {l0 l1 l2 l3 l4 : Option mV} {st : mS} {f : Nat → Nat → Int32} {g : Nat → Nat → Option Nat} {k : Nat} (hs1 : m_kn k = 0) (hs2 : m_ln k = 0) : m_R (m_E d) 15 m_SH.length (m_sl m_SH) Q 83 [l0, l1, l2, l3, l4] (.inr (some k) :: st) (m_SH, f, g) = m_R (m_E d) 15 m_SH.length (m_sl m_SH) Q 86 [l0, l1, l2, l3, l4] (.inr (g k 0) :: st) (m_SH, f, g) := m_rst rfl (if_pos (m_sho hs1 hs2))
theorem r15_86 {d : Nat} {Q : mQ} {l0 l1 l2 l3 l4 : Option mV} {st : mS} {f : Nat → Nat → Int32} {g : Nat → Nat → Option Nat} {x : Int32}  : m_R (m_E d) 15 m_SH.length (m_sl m_SH) Q 86 [l0, l1, l2, some (.inl x), l4] st (m_SH, f, g) = m_R (m_E d) 15 m_SH.length (m_sl m_SH) Q 87 [l0, l1, l2, some (.inl x), l4] (.inl x :: st) (m_SH, f, g) := m_rst rfl rfl
theorem r15_87 {d : Nat} {Q : mQ} {l0 l1 l2 l3 l4 : Option mV} {st : mS} {f : Nat → Nat → Int32} {g : Nat → Nat → Option Nat} {v0 : mV} {k : Nat} (hs1 : m_kn k = 0) (hs2 : m_ln k = 1) (hst : st.length ≤ 8) : m_R (m_E d) 15 m_SH.length (m_sl m_SH) Q 87 [l0, l1, l2, l3, l4] (v0 :: .inr (some k) :: st) (m_SH, f, g) = m_E d 8 [.inr (some k), v0] (m_SH, f, g) (fun r w => m_R (m_E d) 15 m_SH.length (m_sl m_SH) Q 90 [l0, l1, l2, l3, l4] (r.toList ++ st) w) := m_rcall (rest := st) rfl (if_pos ⟨⟨by show 1 ≤ List.length (v0 :: .inr (some k) :: st); simp only [List.length_cons]; omega, rfl, hst, fun _ => m_sho hs1 hs2⟩, Nat.le_refl _, Nat.le_refl _⟩)
theorem r15_90 {d : Nat} {Q : mQ} {l0 l1 l2 l3 l4 : Option mV} {f : Nat → Nat → Int32} {g : Nat → Nat → Option Nat} {x : Int32} (hz : x = 0 ∨ x = 1) : m_R (m_E d) 15 m_SH.length (m_sl m_SH) Q 90 [l0, l1, l2, l3, l4] [.inl x] (m_SH, f, g) = Q (some (.inl x)) (m_SH, f, g) := m_rret (i := .ireturn) rfl (m_st_ri.trans (m_ri2 (me := 15) (N := m_SH.length) (S := m_sl m_SH) (w := (m_SH, f, g)) rfl hz (m_b0 rfl)))
theorem r15_91 {d : Nat} {Q : mQ} {l0 l1 l2 l3 l4 : Option mV} {st : mS} {f : Nat → Nat → Int32} {g : Nat → Nat → Option Nat}  : m_R (m_E d) 15 m_SH.length (m_sl m_SH) Q 91 [l0, l1, l2, l3, l4] st (m_SH, f, g) = m_R (m_E d) 15 m_SH.length (m_sl m_SH) Q 92 [l0, l1, l2, l3, l4] (.inl 1 :: st) (m_SH, f, g) := m_rst rfl rfl
theorem r15_92 {d : Nat} {Q : mQ} {l0 l1 l2 l3 l4 : Option mV} {f : Nat → Nat → Int32} {g : Nat → Nat → Option Nat} {x : Int32} (hz : x = 0 ∨ x = 1) : m_R (m_E d) 15 m_SH.length (m_sl m_SH) Q 92 [l0, l1, l2, l3, l4] [.inl x] (m_SH, f, g) = Q (some (.inl x)) (m_SH, f, g) := m_rret (i := .ireturn) rfl (m_st_ri.trans (m_ri2 (me := 15) (N := m_SH.length) (S := m_sl m_SH) (w := (m_SH, f, g)) rfl hz (m_b0 rfl)))
theorem r15_93 {d : Nat} {Q : mQ} {l0 l1 l2 l3 l4 : Option mV} {st : mS} {f : Nat → Nat → Int32} {g : Nat → Nat → Option Nat} {x : Int32}  : m_R (m_E d) 15 m_SH.length (m_sl m_SH) Q 93 [l0, l1, l2, some (.inl x), l4] st (m_SH, f, g) = m_R (m_E d) 15 m_SH.length (m_sl m_SH) Q 94 [l0, l1, l2, some (.inl x), l4] (.inl x :: st) (m_SH, f, g) := m_rst rfl rfl
theorem r15_94 {d : Nat} {Q : mQ} {l0 l1 l2 l3 l4 : Option mV} {st : mS} {f : Nat → Nat → Int32} {g : Nat → Nat → Option Nat} {x : Int32} : m_R (m_E d) 15 m_SH.length (m_sl m_SH) Q 94 [l0, l1, l2, l3, l4] (.inl x :: st) (m_SH, f, g) = (if x < 0 then m_R (m_E d) 15 m_SH.length (m_sl m_SH) Q 118 [l0, l1, l2, l3, l4] st (m_SH, f, g) else m_R (m_E d) 15 m_SH.length (m_sl m_SH) Q 97 [l0, l1, l2, l3, l4] st (m_SH, f, g)) := m_rif rfl (o1 := some (.inl (118, [l0, l1, l2, l3, l4], st, (m_SH, f, g)))) (o2 := some (.inl (97, [l0, l1, l2, l3, l4], st, (m_SH, f, g)))) rfl
theorem r15_97 {d : Nat} {Q : mQ} {l0 l1 l2 l3 l4 : Option mV} {st : mS} {f : Nat → Nat → Int32} {g : Nat → Nat → Option Nat} {x : Int32}  : m_R (m_E d) 15 m_SH.length (m_sl m_SH) Q 97 [l0, l1, l2, some (.inl x), l4] st (m_SH, f, g) = m_R (m_E d) 15 m_SH.length (m_sl m_SH) Q 98 [l0, l1, l2, some (.inl x), l4] (.inl x :: st) (m_SH, f, g) := m_rst rfl rfl
theorem r15_98 {d : Nat} {Q : mQ} {l0 l1 l2 l3 l4 : Option mV} {st : mS} {f : Nat → Nat → Int32} {g : Nat → Nat → Option Nat}  : m_R (m_E d) 15 m_SH.length (m_sl m_SH) Q 98 [l0, l1, l2, l3, l4] st (m_SH, f, g) = m_R (m_E d) 15 m_SH.length (m_sl m_SH) Q 100 [l0, l1, l2, l3, l4] (.inl 10 :: st) (m_SH, f, g) := m_rst rfl rfl
theorem r15_100 {d : Nat} {Q : mQ} {l0 l1 l2 l3 l4 : Option mV} {st : mS} {f : Nat → Nat → Int32} {g : Nat → Nat → Option Nat} {x y : Int32} : m_R (m_E d) 15 m_SH.length (m_sl m_SH) Q 100 [l0, l1, l2, l3, l4] (.inl y :: .inl x :: st) (m_SH, f, g) = (if y ≤ x then m_R (m_E d) 15 m_SH.length (m_sl m_SH) Q 118 [l0, l1, l2, l3, l4] st (m_SH, f, g) else m_R (m_E d) 15 m_SH.length (m_sl m_SH) Q 103 [l0, l1, l2, l3, l4] st (m_SH, f, g)) := m_rif rfl (o1 := some (.inl (118, [l0, l1, l2, l3, l4], st, (m_SH, f, g)))) (o2 := some (.inl (103, [l0, l1, l2, l3, l4], st, (m_SH, f, g)))) rfl
theorem r15_103 {d : Nat} {Q : mQ} {l0 l1 l2 l3 l4 : Option mV} {st : mS} {f : Nat → Nat → Int32} {g : Nat → Nat → Option Nat} {x : Int32}  : m_R (m_E d) 15 m_SH.length (m_sl m_SH) Q 103 [l0, l1, l2, l3, some (.inl x)] st (m_SH, f, g) = m_R (m_E d) 15 m_SH.length (m_sl m_SH) Q 105 [l0, l1, l2, l3, some (.inl x)] (.inl x :: st) (m_SH, f, g) := m_rst rfl rfl
theorem r15_105 {d : Nat} {Q : mQ} {l0 l1 l2 l3 l4 : Option mV} {st : mS} {f : Nat → Nat → Int32} {g : Nat → Nat → Option Nat} {x : Int32} : m_R (m_E d) 15 m_SH.length (m_sl m_SH) Q 105 [l0, l1, l2, l3, l4] (.inl x :: st) (m_SH, f, g) = (if x = 0 then m_R (m_E d) 15 m_SH.length (m_sl m_SH) Q 114 [l0, l1, l2, l3, l4] st (m_SH, f, g) else m_R (m_E d) 15 m_SH.length (m_sl m_SH) Q 108 [l0, l1, l2, l3, l4] st (m_SH, f, g)) := m_rif rfl (o1 := some (.inl (114, [l0, l1, l2, l3, l4], st, (m_SH, f, g)))) (o2 := some (.inl (108, [l0, l1, l2, l3, l4], st, (m_SH, f, g)))) rfl
theorem r15_108 {d : Nat} {Q : mQ} {l0 l1 l2 l3 l4 : Option mV} {st : mS} {f : Nat → Nat → Int32} {g : Nat → Nat → Option Nat} {x : Int32}  : m_R (m_E d) 15 m_SH.length (m_sl m_SH) Q 108 [l0, l1, l2, l3, some (.inl x)] st (m_SH, f, g) = m_R (m_E d) 15 m_SH.length (m_sl m_SH) Q 110 [l0, l1, l2, l3, some (.inl x)] (.inl x :: st) (m_SH, f, g) := m_rst rfl rfl
theorem r15_110 {d : Nat} {Q : mQ} {l0 l1 l2 l3 l4 : Option mV} {st : mS} {f : Nat → Nat → Int32} {g : Nat → Nat → Option Nat}  : m_R (m_E d) 15 m_SH.length (m_sl m_SH) Q 110 [l0, l1, l2, l3, l4] st (m_SH, f, g) = m_R (m_E d) 15 m_SH.length (m_sl m_SH) Q 111 [l0, l1, l2, l3, l4] (.inl 1 :: st) (m_SH, f, g) := m_rst rfl rfl
theorem r15_111 {d : Nat} {Q : mQ} {l0 l1 l2 l3 l4 : Option mV} {st : mS} {f : Nat → Nat → Int32} {g : Nat → Nat → Option Nat} {x y : Int32} : m_R (m_E d) 15 m_SH.length (m_sl m_SH) Q 111 [l0, l1, l2, l3, l4] (.inl y :: .inl x :: st) (m_SH, f, g) = (if x = y then m_R (m_E d) 15 m_SH.length (m_sl m_SH) Q 114 [l0, l1, l2, l3, l4] st (m_SH, f, g) else m_R (m_E d) 15 m_SH.length (m_sl m_SH) Q 118 [l0, l1, l2, l3, l4] st (m_SH, f, g)) := m_rif rfl (o1 := some (.inl (114, [l0, l1, l2, l3, l4], st, (m_SH, f, g)))) (o2 := some (.inl (118, [l0, l1, l2, l3, l4], st, (m_SH, f, g)))) rfl
theorem r15_114 {d : Nat} {Q : mQ} {l0 l1 l2 l3 l4 : Option mV} {st : mS} {f : Nat → Nat → Int32} {g : Nat → Nat → Option Nat}  : m_R (m_E d) 15 m_SH.length (m_sl m_SH) Q 114 [l0, l1, l2, l3, l4] st (m_SH, f, g) = m_R (m_E d) 15 m_SH.length (m_sl m_SH) Q 115 [l0, l1, l2, l3, l4] (.inl 1 :: st) (m_SH, f, g) := m_rst rfl rfl
theorem r15_115 {d : Nat} {Q : mQ} {l0 l1 l2 l3 l4 : Option mV} {st : mS} {f : Nat → Nat → Int32} {g : Nat → Nat → Option Nat}  : m_R (m_E d) 15 m_SH.length (m_sl m_SH) Q 115 [l0, l1, l2, l3, l4] st (m_SH, f, g) = m_R (m_E d) 15 m_SH.length (m_sl m_SH) Q 119 [l0, l1, l2, l3, l4] st (m_SH, f, g) := m_rst rfl rfl
theorem r15_118 {d : Nat} {Q : mQ} {l0 l1 l2 l3 l4 : Option mV} {st : mS} {f : Nat → Nat → Int32} {g : Nat → Nat → Option Nat}  : m_R (m_E d) 15 m_SH.length (m_sl m_SH) Q 118 [l0, l1, l2, l3, l4] st (m_SH, f, g) = m_R (m_E d) 15 m_SH.length (m_sl m_SH) Q 119 [l0, l1, l2, l3, l4] (.inl 0 :: st) (m_SH, f, g) := m_rst rfl rfl
theorem r15_119 {d : Nat} {Q : mQ} {l0 l1 l2 l3 l4 : Option mV} {f : Nat → Nat → Int32} {g : Nat → Nat → Option Nat} {x : Int32} (hz : x = 0 ∨ x = 1) : m_R (m_E d) 15 m_SH.length (m_sl m_SH) Q 119 [l0, l1, l2, l3, l4] [.inl x] (m_SH, f, g) = Q (some (.inl x)) (m_SH, f, g) := m_rret (i := .ireturn) rfl (m_st_ri.trans (m_ri2 (me := 15) (N := m_SH.length) (S := m_sl m_SH) (w := (m_SH, f, g)) rfl hz (m_b0 rfl)))
theorem r15_120 {d : Nat} {Q : mQ} {l0 l1 l2 l3 l4 : Option mV} {st : mS} {f : Nat → Nat → Int32} {g : Nat → Nat → Option Nat}  : m_R (m_E d) 15 m_SH.length (m_sl m_SH) Q 120 [l0, l1, l2, l3, l4] st (m_SH, f, g) = m_R (m_E d) 15 m_SH.length (m_sl m_SH) Q 121 [l0, l1, l2, l3, l4] (.inl 0 :: st) (m_SH, f, g) := m_rst rfl rfl
theorem r15_121 {d : Nat} {Q : mQ} {l0 l1 l2 l3 l4 : Option mV} {f : Nat → Nat → Int32} {g : Nat → Nat → Option Nat} {x : Int32} (hz : x = 0 ∨ x = 1) : m_R (m_E d) 15 m_SH.length (m_sl m_SH) Q 121 [l0, l1, l2, l3, l4] [.inl x] (m_SH, f, g) = Q (some (.inl x)) (m_SH, f, g) := m_rret (i := .ireturn) rfl (m_st_ri.trans (m_ri2 (me := 15) (N := m_SH.length) (S := m_sl m_SH) (w := (m_SH, f, g)) rfl hz (m_b0 rfl)))
/-! 16: Desk_isKey -/
theorem r16_0 {d : Nat} {Q : mQ} {l0 : Option mV} {st : mS} {f : Nat → Nat → Int32} {g : Nat → Nat → Option Nat} {x : Int32}  : m_R (m_E d) 16 m_SH.length (m_sl m_SH) Q 0 [some (.inl x)] st (m_SH, f, g) = m_R (m_E d) 16 m_SH.length (m_sl m_SH) Q 1 [some (.inl x)] (.inl x :: st) (m_SH, f, g) := m_rst rfl rfl
theorem r16_1 {d : Nat} {Q : mQ} {l0 : Option mV} {st : mS} {f : Nat → Nat → Int32} {g : Nat → Nat → Option Nat} {x : Int32} : m_R (m_E d) 16 m_SH.length (m_sl m_SH) Q 1 [l0] (.inl x :: st) (m_SH, f, g) = (if x < 0 then m_R (m_E d) 16 m_SH.length (m_sl m_SH) Q 13 [l0] st (m_SH, f, g) else m_R (m_E d) 16 m_SH.length (m_sl m_SH) Q 4 [l0] st (m_SH, f, g)) := m_rif rfl (o1 := some (.inl (13, [l0], st, (m_SH, f, g)))) (o2 := some (.inl (4, [l0], st, (m_SH, f, g)))) rfl
theorem r16_4 {d : Nat} {Q : mQ} {l0 : Option mV} {st : mS} {f : Nat → Nat → Int32} {g : Nat → Nat → Option Nat} {x : Int32}  : m_R (m_E d) 16 m_SH.length (m_sl m_SH) Q 4 [some (.inl x)] st (m_SH, f, g) = m_R (m_E d) 16 m_SH.length (m_sl m_SH) Q 5 [some (.inl x)] (.inl x :: st) (m_SH, f, g) := m_rst rfl rfl
theorem r16_5 {d : Nat} {Q : mQ} {l0 : Option mV} {st : mS} {f : Nat → Nat → Int32} {g : Nat → Nat → Option Nat}  : m_R (m_E d) 16 m_SH.length (m_sl m_SH) Q 5 [l0] st (m_SH, f, g) = m_R (m_E d) 16 m_SH.length (m_sl m_SH) Q 6 [l0] (.inl 4 :: st) (m_SH, f, g) := m_rst rfl rfl
theorem r16_6 {d : Nat} {Q : mQ} {l0 : Option mV} {st : mS} {f : Nat → Nat → Int32} {g : Nat → Nat → Option Nat} {x y : Int32} : m_R (m_E d) 16 m_SH.length (m_sl m_SH) Q 6 [l0] (.inl y :: .inl x :: st) (m_SH, f, g) = (if y ≤ x then m_R (m_E d) 16 m_SH.length (m_sl m_SH) Q 13 [l0] st (m_SH, f, g) else m_R (m_E d) 16 m_SH.length (m_sl m_SH) Q 9 [l0] st (m_SH, f, g)) := m_rif rfl (o1 := some (.inl (13, [l0], st, (m_SH, f, g)))) (o2 := some (.inl (9, [l0], st, (m_SH, f, g)))) rfl
theorem r16_9 {d : Nat} {Q : mQ} {l0 : Option mV} {st : mS} {f : Nat → Nat → Int32} {g : Nat → Nat → Option Nat}  : m_R (m_E d) 16 m_SH.length (m_sl m_SH) Q 9 [l0] st (m_SH, f, g) = m_R (m_E d) 16 m_SH.length (m_sl m_SH) Q 10 [l0] (.inl 1 :: st) (m_SH, f, g) := m_rst rfl rfl
theorem r16_10 {d : Nat} {Q : mQ} {l0 : Option mV} {st : mS} {f : Nat → Nat → Int32} {g : Nat → Nat → Option Nat}  : m_R (m_E d) 16 m_SH.length (m_sl m_SH) Q 10 [l0] st (m_SH, f, g) = m_R (m_E d) 16 m_SH.length (m_sl m_SH) Q 14 [l0] st (m_SH, f, g) := m_rst rfl rfl
theorem r16_13 {d : Nat} {Q : mQ} {l0 : Option mV} {st : mS} {f : Nat → Nat → Int32} {g : Nat → Nat → Option Nat}  : m_R (m_E d) 16 m_SH.length (m_sl m_SH) Q 13 [l0] st (m_SH, f, g) = m_R (m_E d) 16 m_SH.length (m_sl m_SH) Q 14 [l0] (.inl 0 :: st) (m_SH, f, g) := m_rst rfl rfl
theorem r16_14 {d : Nat} {Q : mQ} {l0 : Option mV} {f : Nat → Nat → Int32} {g : Nat → Nat → Option Nat} {x : Int32} (hz : x = 0 ∨ x = 1) : m_R (m_E d) 16 m_SH.length (m_sl m_SH) Q 14 [l0] [.inl x] (m_SH, f, g) = Q (some (.inl x)) (m_SH, f, g) := m_rret (i := .ireturn) rfl (m_st_ri.trans (m_ri2 (me := 16) (N := m_SH.length) (S := m_sl m_SH) (w := (m_SH, f, g)) rfl hz (m_b0 rfl)))
/-! 17: Plan_addStep -/
theorem r17_0 {d : Nat} {Q : mQ} {l0 l1 l2 l3 : Option mV} {st : mS} {f : Nat → Nat → Int32} {g : Nat → Nat → Option Nat} {x : Option Nat}  : m_R (m_E d) 17 m_SH.length (m_sl m_SH) Q 0 [some (.inr x), l1, l2, l3] st (m_SH, f, g) = m_R (m_E d) 17 m_SH.length (m_sl m_SH) Q 1 [some (.inr x), l1, l2, l3] (.inr x :: st) (m_SH, f, g) := m_rst rfl rfl
theorem r17_1 {d : Nat} {Q : mQ} {l0 l1 l2 l3 : Option mV} {st : mS} {f : Nat → Nat → Int32} {g : Nat → Nat → Option Nat} {k : Nat} (hs1 : m_kn k = 0) (hs2 : m_ln k = 2) : m_R (m_E d) 17 m_SH.length (m_sl m_SH) Q 1 [l0, l1, l2, l3] (.inr (some k) :: st) (m_SH, f, g) = m_R (m_E d) 17 m_SH.length (m_sl m_SH) Q 4 [l0, l1, l2, l3] (.inl (f k 7) :: st) (m_SH, f, g) := m_rst rfl (if_pos (m_sho hs1 hs2))
theorem r17_4 {d : Nat} {Q : mQ} {l0 l1 l2 l3 : Option mV} {st : mS} {f : Nat → Nat → Int32} {g : Nat → Nat → Option Nat}  : m_R (m_E d) 17 m_SH.length (m_sl m_SH) Q 4 [l0, l1, l2, l3] st (m_SH, f, g) = m_R (m_E d) 17 m_SH.length (m_sl m_SH) Q 6 [l0, l1, l2, l3] (.inl 8 :: st) (m_SH, f, g) := m_rst rfl rfl
theorem r17_6 {d : Nat} {Q : mQ} {l0 l1 l2 l3 : Option mV} {st : mS} {f : Nat → Nat → Int32} {g : Nat → Nat → Option Nat} {x y : Int32} : m_R (m_E d) 17 m_SH.length (m_sl m_SH) Q 6 [l0, l1, l2, l3] (.inl y :: .inl x :: st) (m_SH, f, g) = (if x < y then m_R (m_E d) 17 m_SH.length (m_sl m_SH) Q 11 [l0, l1, l2, l3] st (m_SH, f, g) else m_R (m_E d) 17 m_SH.length (m_sl m_SH) Q 9 [l0, l1, l2, l3] st (m_SH, f, g)) := m_rif rfl (o1 := some (.inl (11, [l0, l1, l2, l3], st, (m_SH, f, g)))) (o2 := some (.inl (9, [l0, l1, l2, l3], st, (m_SH, f, g)))) rfl
theorem r17_9 {d : Nat} {Q : mQ} {l0 l1 l2 l3 : Option mV} {st : mS} {f : Nat → Nat → Int32} {g : Nat → Nat → Option Nat}  : m_R (m_E d) 17 m_SH.length (m_sl m_SH) Q 9 [l0, l1, l2, l3] st (m_SH, f, g) = m_R (m_E d) 17 m_SH.length (m_sl m_SH) Q 10 [l0, l1, l2, l3] (.inl (-1) :: st) (m_SH, f, g) := m_rst rfl rfl
theorem r17_10 {d : Nat} {Q : mQ} {l0 l1 l2 l3 : Option mV} {f : Nat → Nat → Int32} {g : Nat → Nat → Option Nat} {x : Int32} : m_R (m_E d) 17 m_SH.length (m_sl m_SH) Q 10 [l0, l1, l2, l3] [.inl x] (m_SH, f, g) = Q (some (.inl x)) (m_SH, f, g) := m_rret (i := .ireturn) rfl (m_st_ri.trans (m_ri1 (me := 17) (N := m_SH.length) (S := m_sl m_SH) (w := (m_SH, f, g)) rfl (m_b0 rfl)))
theorem r17_11 {d : Nat} {Q : mQ} {l0 l1 l2 l3 : Option mV} {st : mS} {f : Nat → Nat → Int32} {g : Nat → Nat → Option Nat} {x : Option Nat}  : m_R (m_E d) 17 m_SH.length (m_sl m_SH) Q 11 [some (.inr x), l1, l2, l3] st (m_SH, f, g) = m_R (m_E d) 17 m_SH.length (m_sl m_SH) Q 12 [some (.inr x), l1, l2, l3] (.inr x :: st) (m_SH, f, g) := m_rst rfl rfl
theorem r17_12 {d : Nat} {Q : mQ} {l0 l1 l2 l3 : Option mV} {st : mS} {f : Nat → Nat → Int32} {g : Nat → Nat → Option Nat} {k : Nat} (hs1 : m_kn k = 0) (hs2 : m_ln k = 2) : m_R (m_E d) 17 m_SH.length (m_sl m_SH) Q 12 [l0, l1, l2, l3] (.inr (some k) :: st) (m_SH, f, g) = m_R (m_E d) 17 m_SH.length (m_sl m_SH) Q 15 [l0, l1, l2, l3] (.inr (g k 4) :: st) (m_SH, f, g) := m_rst rfl (if_pos (m_sho hs1 hs2))
theorem r17_15 {d : Nat} {Q : mQ} {l0 l1 l2 l3 : Option mV} {st : mS} {f : Nat → Nat → Int32} {g : Nat → Nat → Option Nat} {x : Option Nat}  : m_R (m_E d) 17 m_SH.length (m_sl m_SH) Q 15 [some (.inr x), l1, l2, l3] st (m_SH, f, g) = m_R (m_E d) 17 m_SH.length (m_sl m_SH) Q 16 [some (.inr x), l1, l2, l3] (.inr x :: st) (m_SH, f, g) := m_rst rfl rfl
theorem r17_16 {d : Nat} {Q : mQ} {l0 l1 l2 l3 : Option mV} {st : mS} {f : Nat → Nat → Int32} {g : Nat → Nat → Option Nat} {k : Nat} (hs1 : m_kn k = 0) (hs2 : m_ln k = 2) : m_R (m_E d) 17 m_SH.length (m_sl m_SH) Q 16 [l0, l1, l2, l3] (.inr (some k) :: st) (m_SH, f, g) = m_R (m_E d) 17 m_SH.length (m_sl m_SH) Q 19 [l0, l1, l2, l3] (.inl (f k 7) :: st) (m_SH, f, g) := m_rst rfl (if_pos (m_sho hs1 hs2))
theorem r17_19 {d : Nat} {Q : mQ} {l0 l1 l2 l3 : Option mV} {st : mS} {f : Nat → Nat → Int32} {g : Nat → Nat → Option Nat} {x : Int32}  : m_R (m_E d) 17 m_SH.length (m_sl m_SH) Q 19 [l0, some (.inl x), l2, l3] st (m_SH, f, g) = m_R (m_E d) 17 m_SH.length (m_sl m_SH) Q 20 [l0, some (.inl x), l2, l3] (.inl x :: st) (m_SH, f, g) := m_rst rfl rfl
theorem r17_20 {d : Nat} {Q : mQ} {l0 l1 l2 l3 : Option mV} {st : mS} {f : Nat → Nat → Int32} {g : Nat → Nat → Option Nat} {k : Nat} {i x : Int32} (hs1 : m_kn k = 1) (hi : ¬ (i < 0 ∨ m_ln k ≤ i.toNatClampNeg)) : m_R (m_E d) 17 m_SH.length (m_sl m_SH) Q 20 [l0, l1, l2, l3] (.inl x :: .inl i :: .inr (some k) :: st) (m_SH, f, g) = m_R (m_E d) 17 m_SH.length (m_sl m_SH) Q 21 [l0, l1, l2, l3] st (m_SH, m_si f k i.toNatClampNeg x, g) := m_rst rfl (m_yi_of hs1 hi)
theorem r17_21 {d : Nat} {Q : mQ} {l0 l1 l2 l3 : Option mV} {st : mS} {f : Nat → Nat → Int32} {g : Nat → Nat → Option Nat} {x : Option Nat}  : m_R (m_E d) 17 m_SH.length (m_sl m_SH) Q 21 [some (.inr x), l1, l2, l3] st (m_SH, f, g) = m_R (m_E d) 17 m_SH.length (m_sl m_SH) Q 22 [some (.inr x), l1, l2, l3] (.inr x :: st) (m_SH, f, g) := m_rst rfl rfl
theorem r17_22 {d : Nat} {Q : mQ} {l0 l1 l2 l3 : Option mV} {st : mS} {f : Nat → Nat → Int32} {g : Nat → Nat → Option Nat} {k : Nat} (hs1 : m_kn k = 0) (hs2 : m_ln k = 2) : m_R (m_E d) 17 m_SH.length (m_sl m_SH) Q 22 [l0, l1, l2, l3] (.inr (some k) :: st) (m_SH, f, g) = m_R (m_E d) 17 m_SH.length (m_sl m_SH) Q 25 [l0, l1, l2, l3] (.inr (g k 5) :: st) (m_SH, f, g) := m_rst rfl (if_pos (m_sho hs1 hs2))
theorem r17_25 {d : Nat} {Q : mQ} {l0 l1 l2 l3 : Option mV} {st : mS} {f : Nat → Nat → Int32} {g : Nat → Nat → Option Nat} {x : Option Nat}  : m_R (m_E d) 17 m_SH.length (m_sl m_SH) Q 25 [some (.inr x), l1, l2, l3] st (m_SH, f, g) = m_R (m_E d) 17 m_SH.length (m_sl m_SH) Q 26 [some (.inr x), l1, l2, l3] (.inr x :: st) (m_SH, f, g) := m_rst rfl rfl
theorem r17_26 {d : Nat} {Q : mQ} {l0 l1 l2 l3 : Option mV} {st : mS} {f : Nat → Nat → Int32} {g : Nat → Nat → Option Nat} {k : Nat} (hs1 : m_kn k = 0) (hs2 : m_ln k = 2) : m_R (m_E d) 17 m_SH.length (m_sl m_SH) Q 26 [l0, l1, l2, l3] (.inr (some k) :: st) (m_SH, f, g) = m_R (m_E d) 17 m_SH.length (m_sl m_SH) Q 29 [l0, l1, l2, l3] (.inl (f k 7) :: st) (m_SH, f, g) := m_rst rfl (if_pos (m_sho hs1 hs2))
theorem r17_29 {d : Nat} {Q : mQ} {l0 l1 l2 l3 : Option mV} {st : mS} {f : Nat → Nat → Int32} {g : Nat → Nat → Option Nat} {x : Int32}  : m_R (m_E d) 17 m_SH.length (m_sl m_SH) Q 29 [l0, l1, some (.inl x), l3] st (m_SH, f, g) = m_R (m_E d) 17 m_SH.length (m_sl m_SH) Q 30 [l0, l1, some (.inl x), l3] (.inl x :: st) (m_SH, f, g) := m_rst rfl rfl
theorem r17_30 {d : Nat} {Q : mQ} {l0 l1 l2 l3 : Option mV} {st : mS} {f : Nat → Nat → Int32} {g : Nat → Nat → Option Nat} {k : Nat} {i x : Int32} (hs1 : m_kn k = 1) (hi : ¬ (i < 0 ∨ m_ln k ≤ i.toNatClampNeg)) : m_R (m_E d) 17 m_SH.length (m_sl m_SH) Q 30 [l0, l1, l2, l3] (.inl x :: .inl i :: .inr (some k) :: st) (m_SH, f, g) = m_R (m_E d) 17 m_SH.length (m_sl m_SH) Q 31 [l0, l1, l2, l3] st (m_SH, m_si f k i.toNatClampNeg x, g) := m_rst rfl (m_yi_of hs1 hi)
theorem r17_31 {d : Nat} {Q : mQ} {l0 l1 l2 l3 : Option mV} {st : mS} {f : Nat → Nat → Int32} {g : Nat → Nat → Option Nat} {x : Option Nat}  : m_R (m_E d) 17 m_SH.length (m_sl m_SH) Q 31 [some (.inr x), l1, l2, l3] st (m_SH, f, g) = m_R (m_E d) 17 m_SH.length (m_sl m_SH) Q 32 [some (.inr x), l1, l2, l3] (.inr x :: st) (m_SH, f, g) := m_rst rfl rfl
theorem r17_32 {d : Nat} {Q : mQ} {l0 l1 l2 l3 : Option mV} {st : mS} {f : Nat → Nat → Int32} {g : Nat → Nat → Option Nat} {k : Nat} (hs1 : m_kn k = 0) (hs2 : m_ln k = 2) : m_R (m_E d) 17 m_SH.length (m_sl m_SH) Q 32 [l0, l1, l2, l3] (.inr (some k) :: st) (m_SH, f, g) = m_R (m_E d) 17 m_SH.length (m_sl m_SH) Q 35 [l0, l1, l2, l3] (.inr (g k 6) :: st) (m_SH, f, g) := m_rst rfl (if_pos (m_sho hs1 hs2))
theorem r17_35 {d : Nat} {Q : mQ} {l0 l1 l2 l3 : Option mV} {st : mS} {f : Nat → Nat → Int32} {g : Nat → Nat → Option Nat} {x : Option Nat}  : m_R (m_E d) 17 m_SH.length (m_sl m_SH) Q 35 [some (.inr x), l1, l2, l3] st (m_SH, f, g) = m_R (m_E d) 17 m_SH.length (m_sl m_SH) Q 36 [some (.inr x), l1, l2, l3] (.inr x :: st) (m_SH, f, g) := m_rst rfl rfl
theorem r17_36 {d : Nat} {Q : mQ} {l0 l1 l2 l3 : Option mV} {st : mS} {f : Nat → Nat → Int32} {g : Nat → Nat → Option Nat} {k : Nat} (hs1 : m_kn k = 0) (hs2 : m_ln k = 2) : m_R (m_E d) 17 m_SH.length (m_sl m_SH) Q 36 [l0, l1, l2, l3] (.inr (some k) :: st) (m_SH, f, g) = m_R (m_E d) 17 m_SH.length (m_sl m_SH) Q 39 [l0, l1, l2, l3] (.inl (f k 7) :: st) (m_SH, f, g) := m_rst rfl (if_pos (m_sho hs1 hs2))
theorem r17_39 {d : Nat} {Q : mQ} {l0 l1 l2 l3 : Option mV} {st : mS} {f : Nat → Nat → Int32} {g : Nat → Nat → Option Nat} {x : Int32}  : m_R (m_E d) 17 m_SH.length (m_sl m_SH) Q 39 [l0, l1, l2, some (.inl x)] st (m_SH, f, g) = m_R (m_E d) 17 m_SH.length (m_sl m_SH) Q 40 [l0, l1, l2, some (.inl x)] (.inl x :: st) (m_SH, f, g) := m_rst rfl rfl
theorem r17_40 {d : Nat} {Q : mQ} {l0 l1 l2 l3 : Option mV} {st : mS} {f : Nat → Nat → Int32} {g : Nat → Nat → Option Nat} {k : Nat} {i x : Int32} (hs1 : m_kn k = 1) (hi : ¬ (i < 0 ∨ m_ln k ≤ i.toNatClampNeg)) : m_R (m_E d) 17 m_SH.length (m_sl m_SH) Q 40 [l0, l1, l2, l3] (.inl x :: .inl i :: .inr (some k) :: st) (m_SH, f, g) = m_R (m_E d) 17 m_SH.length (m_sl m_SH) Q 41 [l0, l1, l2, l3] st (m_SH, m_si f k i.toNatClampNeg x, g) := m_rst rfl (m_yi_of hs1 hi)
theorem r17_41 {d : Nat} {Q : mQ} {l0 l1 l2 l3 : Option mV} {st : mS} {f : Nat → Nat → Int32} {g : Nat → Nat → Option Nat} {x : Option Nat}  : m_R (m_E d) 17 m_SH.length (m_sl m_SH) Q 41 [some (.inr x), l1, l2, l3] st (m_SH, f, g) = m_R (m_E d) 17 m_SH.length (m_sl m_SH) Q 42 [some (.inr x), l1, l2, l3] (.inr x :: st) (m_SH, f, g) := m_rst rfl rfl
theorem r17_42 {d : Nat} {Q : mQ} {l0 l1 l2 l3 : Option mV} {st : mS} {f : Nat → Nat → Int32} {g : Nat → Nat → Option Nat} {v : mV}  : m_R (m_E d) 17 m_SH.length (m_sl m_SH) Q 42 [l0, l1, l2, l3] (v :: st) (m_SH, f, g) = m_R (m_E d) 17 m_SH.length (m_sl m_SH) Q 43 [l0, l1, l2, l3] (v :: v :: st) (m_SH, f, g) := m_rst rfl rfl
theorem r17_43 {d : Nat} {Q : mQ} {l0 l1 l2 l3 : Option mV} {st : mS} {f : Nat → Nat → Int32} {g : Nat → Nat → Option Nat} {k : Nat} (hs1 : m_kn k = 0) (hs2 : m_ln k = 2) : m_R (m_E d) 17 m_SH.length (m_sl m_SH) Q 43 [l0, l1, l2, l3] (.inr (some k) :: st) (m_SH, f, g) = m_R (m_E d) 17 m_SH.length (m_sl m_SH) Q 46 [l0, l1, l2, l3] (.inl (f k 7) :: st) (m_SH, f, g) := m_rst rfl (if_pos (m_sho hs1 hs2))
theorem r17_46 {d : Nat} {Q : mQ} {l0 l1 l2 l3 : Option mV} {st : mS} {f : Nat → Nat → Int32} {g : Nat → Nat → Option Nat}  : m_R (m_E d) 17 m_SH.length (m_sl m_SH) Q 46 [l0, l1, l2, l3] st (m_SH, f, g) = m_R (m_E d) 17 m_SH.length (m_sl m_SH) Q 47 [l0, l1, l2, l3] (.inl 1 :: st) (m_SH, f, g) := m_rst rfl rfl
theorem r17_47 {d : Nat} {Q : mQ} {l0 l1 l2 l3 : Option mV} {st : mS} {f : Nat → Nat → Int32} {g : Nat → Nat → Option Nat} {x y : Int32}  : m_R (m_E d) 17 m_SH.length (m_sl m_SH) Q 47 [l0, l1, l2, l3] (.inl y :: .inl x :: st) (m_SH, f, g) = m_R (m_E d) 17 m_SH.length (m_sl m_SH) Q 48 [l0, l1, l2, l3] (.inl (x + y) :: st) (m_SH, f, g) := m_rst rfl rfl
theorem r17_48 {d : Nat} {Q : mQ} {l0 l1 l2 l3 : Option mV} {st : mS} {f : Nat → Nat → Int32} {g : Nat → Nat → Option Nat} {k : Nat} {x : Int32} (hs1 : m_kn k = 0) (hs2 : m_ln k = 2) : m_R (m_E d) 17 m_SH.length (m_sl m_SH) Q 48 [l0, l1, l2, l3] (.inl x :: .inr (some k) :: st) (m_SH, f, g) = m_R (m_E d) 17 m_SH.length (m_sl m_SH) Q 51 [l0, l1, l2, l3] st (m_SH, m_si f k 7 x, g) := m_rst rfl (if_pos ⟨m_sho hs1 hs2, Or.inl rfl⟩)
theorem r17_51 {d : Nat} {Q : mQ} {l0 l1 l2 l3 : Option mV} {st : mS} {f : Nat → Nat → Int32} {g : Nat → Nat → Option Nat} {x : Option Nat}  : m_R (m_E d) 17 m_SH.length (m_sl m_SH) Q 51 [some (.inr x), l1, l2, l3] st (m_SH, f, g) = m_R (m_E d) 17 m_SH.length (m_sl m_SH) Q 52 [some (.inr x), l1, l2, l3] (.inr x :: st) (m_SH, f, g) := m_rst rfl rfl
theorem r17_52 {d : Nat} {Q : mQ} {l0 l1 l2 l3 : Option mV} {st : mS} {f : Nat → Nat → Int32} {g : Nat → Nat → Option Nat} {k : Nat} (hs1 : m_kn k = 0) (hs2 : m_ln k = 2) : m_R (m_E d) 17 m_SH.length (m_sl m_SH) Q 52 [l0, l1, l2, l3] (.inr (some k) :: st) (m_SH, f, g) = m_R (m_E d) 17 m_SH.length (m_sl m_SH) Q 55 [l0, l1, l2, l3] (.inl (f k 7) :: st) (m_SH, f, g) := m_rst rfl (if_pos (m_sho hs1 hs2))
theorem r17_55 {d : Nat} {Q : mQ} {l0 l1 l2 l3 : Option mV} {f : Nat → Nat → Int32} {g : Nat → Nat → Option Nat} {x : Int32} : m_R (m_E d) 17 m_SH.length (m_sl m_SH) Q 55 [l0, l1, l2, l3] [.inl x] (m_SH, f, g) = Q (some (.inl x)) (m_SH, f, g) := m_rret (i := .ireturn) rfl (m_st_ri.trans (m_ri1 (me := 17) (N := m_SH.length) (S := m_sl m_SH) (w := (m_SH, f, g)) rfl (m_b0 rfl)))
/-! 18: Desk_invoke -/
theorem r18_0 {d : Nat} {Q : mQ} {l0 l1 : Option mV} {st : mS} {f : Nat → Nat → Int32} {g : Nat → Nat → Option Nat} {x : Option Nat}  : m_R (m_E d) 18 m_SH.length (m_sl m_SH) Q 0 [some (.inr x), l1] st (m_SH, f, g) = m_R (m_E d) 18 m_SH.length (m_sl m_SH) Q 1 [some (.inr x), l1] (.inr x :: st) (m_SH, f, g) := m_rst rfl rfl
theorem r18_1 {d : Nat} {Q : mQ} {l0 l1 : Option mV} {st : mS} {f : Nat → Nat → Int32} {g : Nat → Nat → Option Nat} {x : Int32}  : m_R (m_E d) 18 m_SH.length (m_sl m_SH) Q 1 [l0, some (.inl x)] st (m_SH, f, g) = m_R (m_E d) 18 m_SH.length (m_sl m_SH) Q 2 [l0, some (.inl x)] (.inl x :: st) (m_SH, f, g) := m_rst rfl rfl
theorem r18_2 {d : Nat} {Q : mQ} {l0 l1 : Option mV} {st : mS} {f : Nat → Nat → Int32} {g : Nat → Nat → Option Nat} {v0 : mV} {k : Nat} (hs1 : m_kn k = 0) (hs2 : m_ln k = 0) (hst : st.length ≤ 8) : m_R (m_E d) 18 m_SH.length (m_sl m_SH) Q 2 [l0, l1] (v0 :: .inr (some k) :: st) (m_SH, f, g) = m_E d 12 [.inr (some k), v0] (m_SH, f, g) (fun r w => m_R (m_E d) 18 m_SH.length (m_sl m_SH) Q 5 [l0, l1] (r.toList ++ st) w) := m_rcall (rest := st) rfl (if_pos ⟨⟨by show 1 ≤ List.length (v0 :: .inr (some k) :: st); simp only [List.length_cons]; omega, rfl, hst, fun _ => m_sho hs1 hs2⟩, Nat.le_refl _, Nat.le_refl _⟩)
theorem r18_5 {d : Nat} {Q : mQ} {l0 l1 : Option mV} {st : mS} {f : Nat → Nat → Int32} {g : Nat → Nat → Option Nat} {x : Int32} : m_R (m_E d) 18 m_SH.length (m_sl m_SH) Q 5 [l0, l1] (.inl x :: st) (m_SH, f, g) = (if x = 0 then m_R (m_E d) 18 m_SH.length (m_sl m_SH) Q 8 [l0, l1] st (m_SH, f, g) else m_R (m_E d) 18 m_SH.length (m_sl m_SH) Q 10 [l0, l1] st (m_SH, f, g)) := m_rif rfl (o1 := some (.inl (8, [l0, l1], st, (m_SH, f, g)))) (o2 := some (.inl (10, [l0, l1], st, (m_SH, f, g)))) rfl
theorem r18_8 {d : Nat} {Q : mQ} {l0 l1 : Option mV} {st : mS} {f : Nat → Nat → Int32} {g : Nat → Nat → Option Nat}  : m_R (m_E d) 18 m_SH.length (m_sl m_SH) Q 8 [l0, l1] st (m_SH, f, g) = m_R (m_E d) 18 m_SH.length (m_sl m_SH) Q 9 [l0, l1] (.inl (-1) :: st) (m_SH, f, g) := m_rst rfl rfl
theorem r18_9 {d : Nat} {Q : mQ} {l0 l1 : Option mV} {f : Nat → Nat → Int32} {g : Nat → Nat → Option Nat} {x : Int32} : m_R (m_E d) 18 m_SH.length (m_sl m_SH) Q 9 [l0, l1] [.inl x] (m_SH, f, g) = Q (some (.inl x)) (m_SH, f, g) := m_rret (i := .ireturn) rfl (m_st_ri.trans (m_ri1 (me := 18) (N := m_SH.length) (S := m_sl m_SH) (w := (m_SH, f, g)) rfl (m_b0 rfl)))
theorem r18_10 {d : Nat} {Q : mQ} {l0 l1 : Option mV} {st : mS} {f : Nat → Nat → Int32} {g : Nat → Nat → Option Nat} {x : Option Nat}  : m_R (m_E d) 18 m_SH.length (m_sl m_SH) Q 10 [some (.inr x), l1] st (m_SH, f, g) = m_R (m_E d) 18 m_SH.length (m_sl m_SH) Q 11 [some (.inr x), l1] (.inr x :: st) (m_SH, f, g) := m_rst rfl rfl
theorem r18_11 {d : Nat} {Q : mQ} {l0 l1 : Option mV} {st : mS} {f : Nat → Nat → Int32} {g : Nat → Nat → Option Nat} {k : Nat} (hs1 : m_kn k = 0) (hs2 : m_ln k = 0) : m_R (m_E d) 18 m_SH.length (m_sl m_SH) Q 11 [l0, l1] (.inr (some k) :: st) (m_SH, f, g) = m_R (m_E d) 18 m_SH.length (m_sl m_SH) Q 14 [l0, l1] (.inr (g k 5) :: st) (m_SH, f, g) := m_rst rfl (if_pos (m_sho hs1 hs2))
theorem r18_14 {d : Nat} {Q : mQ} {l0 l1 : Option mV} {st : mS} {f : Nat → Nat → Int32} {g : Nat → Nat → Option Nat} {k : Nat} (hs1 : m_kn k = 0) (hs2 : m_ln k = 5) (hst : st.length ≤ 8) : m_R (m_E d) 18 m_SH.length (m_sl m_SH) Q 14 [l0, l1] (.inr (some k) :: st) (m_SH, f, g) = m_E d 19 [.inr (some k)] (m_SH, f, g) (fun r w => m_R (m_E d) 18 m_SH.length (m_sl m_SH) Q 17 [l0, l1] (r.toList ++ st) w) := m_rcall (rest := st) rfl (if_pos ⟨⟨by show 0 ≤ List.length (.inr (some k) :: st); simp only [List.length_cons]; omega, rfl, hst, fun _ => m_sho hs1 hs2⟩, Nat.le_refl _, Nat.le_refl _⟩)
theorem r18_17 {d : Nat} {Q : mQ} {l0 l1 : Option mV} {st : mS} {f : Nat → Nat → Int32} {g : Nat → Nat → Option Nat} {x : Option Nat}  : m_R (m_E d) 18 m_SH.length (m_sl m_SH) Q 17 [some (.inr x), l1] st (m_SH, f, g) = m_R (m_E d) 18 m_SH.length (m_sl m_SH) Q 18 [some (.inr x), l1] (.inr x :: st) (m_SH, f, g) := m_rst rfl rfl
theorem r18_18 {d : Nat} {Q : mQ} {l0 l1 : Option mV} {st : mS} {f : Nat → Nat → Int32} {g : Nat → Nat → Option Nat}  : m_R (m_E d) 18 m_SH.length (m_sl m_SH) Q 18 [l0, l1] st (m_SH, f, g) = m_R (m_E d) 18 m_SH.length (m_sl m_SH) Q 19 [l0, l1] (.inl 0 :: st) (m_SH, f, g) := m_rst rfl rfl
theorem r18_19 {d : Nat} {Q : mQ} {l0 l1 : Option mV} {st : mS} {f : Nat → Nat → Int32} {g : Nat → Nat → Option Nat} {k : Nat} {x : Int32} (hs1 : m_kn k = 0) (hs2 : m_ln k = 0) : m_R (m_E d) 18 m_SH.length (m_sl m_SH) Q 19 [l0, l1] (.inl x :: .inr (some k) :: st) (m_SH, f, g) = m_R (m_E d) 18 m_SH.length (m_sl m_SH) Q 22 [l0, l1] st (m_SH, m_si f k 7 x, g) := m_rst rfl (if_pos ⟨m_sho hs1 hs2, Or.inl rfl⟩)
theorem r18_22 {d : Nat} {Q : mQ} {l0 l1 : Option mV} {st : mS} {f : Nat → Nat → Int32} {g : Nat → Nat → Option Nat} {x : Option Nat}  : m_R (m_E d) 18 m_SH.length (m_sl m_SH) Q 22 [some (.inr x), l1] st (m_SH, f, g) = m_R (m_E d) 18 m_SH.length (m_sl m_SH) Q 23 [some (.inr x), l1] (.inr x :: st) (m_SH, f, g) := m_rst rfl rfl
theorem r18_23 {d : Nat} {Q : mQ} {l0 l1 : Option mV} {st : mS} {f : Nat → Nat → Int32} {g : Nat → Nat → Option Nat} {x : Int32}  : m_R (m_E d) 18 m_SH.length (m_sl m_SH) Q 23 [l0, some (.inl x)] st (m_SH, f, g) = m_R (m_E d) 18 m_SH.length (m_sl m_SH) Q 24 [l0, some (.inl x)] (.inl x :: st) (m_SH, f, g) := m_rst rfl rfl
theorem r18_24 {d : Nat} {Q : mQ} {l0 l1 : Option mV} {st : mS} {f : Nat → Nat → Int32} {g : Nat → Nat → Option Nat}  : m_R (m_E d) 18 m_SH.length (m_sl m_SH) Q 24 [l0, l1] st (m_SH, f, g) = m_R (m_E d) 18 m_SH.length (m_sl m_SH) Q 25 [l0, l1] (.inr none :: st) (m_SH, f, g) := m_rst rfl rfl
theorem r18_25 {d : Nat} {Q : mQ} {l0 l1 : Option mV} {st : mS} {f : Nat → Nat → Int32} {g : Nat → Nat → Option Nat}  : m_R (m_E d) 18 m_SH.length (m_sl m_SH) Q 25 [l0, l1] st (m_SH, f, g) = m_R (m_E d) 18 m_SH.length (m_sl m_SH) Q 26 [l0, l1] (.inl 0 :: st) (m_SH, f, g) := m_rst rfl rfl
theorem r18_26 {d : Nat} {Q : mQ} {l0 l1 : Option mV} {st : mS} {f : Nat → Nat → Int32} {g : Nat → Nat → Option Nat} {v0 v1 v2 : mV} {k : Nat} (hs1 : m_kn k = 0) (hs2 : m_ln k = 0) (hst : st.length ≤ 8) : m_R (m_E d) 18 m_SH.length (m_sl m_SH) Q 26 [l0, l1] (v2 :: v1 :: v0 :: .inr (some k) :: st) (m_SH, f, g) = m_E d 20 [.inr (some k), v0, v1, v2] (m_SH, f, g) (fun r w => m_R (m_E d) 18 m_SH.length (m_sl m_SH) Q 29 [l0, l1] (r.toList ++ st) w) := m_rcall (rest := st) rfl (if_pos ⟨⟨by show 3 ≤ List.length (v2 :: v1 :: v0 :: .inr (some k) :: st); simp only [List.length_cons]; omega, rfl, hst, fun _ => m_sho hs1 hs2⟩, Nat.le_refl _, Nat.le_refl _⟩)
theorem r18_29 {d : Nat} {Q : mQ} {l0 l1 : Option mV} {st : mS} {f : Nat → Nat → Int32} {g : Nat → Nat → Option Nat}  : m_R (m_E d) 18 m_SH.length (m_sl m_SH) Q 29 [l0, l1] st (m_SH, f, g) = m_R (m_E d) 18 m_SH.length (m_sl m_SH) Q 30 [l0, l1] (.inl 1 :: st) (m_SH, f, g) := m_rst rfl rfl
theorem r18_30 {d : Nat} {Q : mQ} {l0 l1 : Option mV} {st : mS} {f : Nat → Nat → Int32} {g : Nat → Nat → Option Nat} {x y : Int32}  : m_R (m_E d) 18 m_SH.length (m_sl m_SH) Q 30 [l0, l1] (.inl y :: .inl x :: st) (m_SH, f, g) = m_R (m_E d) 18 m_SH.length (m_sl m_SH) Q 31 [l0, l1] (.inl (x + y) :: st) (m_SH, f, g) := m_rst rfl rfl
theorem r18_31 {d : Nat} {Q : mQ} {l0 l1 : Option mV} {f : Nat → Nat → Int32} {g : Nat → Nat → Option Nat} {x : Int32} : m_R (m_E d) 18 m_SH.length (m_sl m_SH) Q 31 [l0, l1] [.inl x] (m_SH, f, g) = Q (some (.inl x)) (m_SH, f, g) := m_rret (i := .ireturn) rfl (m_st_ri.trans (m_ri1 (me := 18) (N := m_SH.length) (S := m_sl m_SH) (w := (m_SH, f, g)) rfl (m_b0 rfl)))
/-! 19: Journal_clear -/
theorem r19_0 {d : Nat} {Q : mQ} {l0 : Option mV} {st : mS} {f : Nat → Nat → Int32} {g : Nat → Nat → Option Nat} {x : Option Nat}  : m_R (m_E d) 19 m_SH.length (m_sl m_SH) Q 0 [some (.inr x)] st (m_SH, f, g) = m_R (m_E d) 19 m_SH.length (m_sl m_SH) Q 1 [some (.inr x)] (.inr x :: st) (m_SH, f, g) := m_rst rfl rfl
theorem r19_1 {d : Nat} {Q : mQ} {l0 : Option mV} {st : mS} {f : Nat → Nat → Int32} {g : Nat → Nat → Option Nat}  : m_R (m_E d) 19 m_SH.length (m_sl m_SH) Q 1 [l0] st (m_SH, f, g) = m_R (m_E d) 19 m_SH.length (m_sl m_SH) Q 2 [l0] (.inl 0 :: st) (m_SH, f, g) := m_rst rfl rfl
theorem r19_2 {d : Nat} {Q : mQ} {l0 : Option mV} {st : mS} {f : Nat → Nat → Int32} {g : Nat → Nat → Option Nat} {k : Nat} {x : Int32} (hs1 : m_kn k = 0) (hs2 : m_ln k = 5) : m_R (m_E d) 19 m_SH.length (m_sl m_SH) Q 2 [l0] (.inl x :: .inr (some k) :: st) (m_SH, f, g) = m_R (m_E d) 19 m_SH.length (m_sl m_SH) Q 5 [l0] st (m_SH, m_si f k 2 x, g) := m_rst rfl (if_pos ⟨m_sho hs1 hs2, Or.inl rfl⟩)
theorem r19_5 {d : Nat} {Q : mQ} {l0 : Option mV} {f : Nat → Nat → Int32} {g : Nat → Nat → Option Nat} : m_R (m_E d) 19 m_SH.length (m_sl m_SH) Q 5 [l0] [] (m_SH, f, g) = Q none (m_SH, f, g) := m_rret (i := .return_) rfl (m_st_rv.trans (m_rv0 (me := 19) (N := m_SH.length) (S := m_sl m_SH) (w := (m_SH, f, g)) rfl (m_b0 rfl)))
/-! 20: Desk_call -/
theorem r20_0 {d : Nat} {Q : mQ} {l0 l1 l2 l3 l4 l5 l6 l7 : Option mV} {st : mS} {f : Nat → Nat → Int32} {g : Nat → Nat → Option Nat} {x : Option Nat}  : m_R (m_E d) 20 m_SH.length (m_sl m_SH) Q 0 [some (.inr x), l1, l2, l3, l4, l5, l6, l7] st (m_SH, f, g) = m_R (m_E d) 20 m_SH.length (m_sl m_SH) Q 1 [some (.inr x), l1, l2, l3, l4, l5, l6, l7] (.inr x :: st) (m_SH, f, g) := m_rst rfl rfl
theorem r20_1 {d : Nat} {Q : mQ} {l0 l1 l2 l3 l4 l5 l6 l7 : Option mV} {st : mS} {f : Nat → Nat → Int32} {g : Nat → Nat → Option Nat} {k : Nat} (hs1 : m_kn k = 0) (hs2 : m_ln k = 0) : m_R (m_E d) 20 m_SH.length (m_sl m_SH) Q 1 [l0, l1, l2, l3, l4, l5, l6, l7] (.inr (some k) :: st) (m_SH, f, g) = m_R (m_E d) 20 m_SH.length (m_sl m_SH) Q 4 [l0, l1, l2, l3, l4, l5, l6, l7] (.inl (f k 7) :: st) (m_SH, f, g) := m_rst rfl (if_pos (m_sho hs1 hs2))
theorem r20_4 {d : Nat} {Q : mQ} {l0 l1 l2 l3 l4 l5 l6 l7 : Option mV} {st : mS} {f : Nat → Nat → Int32} {g : Nat → Nat → Option Nat}  : m_R (m_E d) 20 m_SH.length (m_sl m_SH) Q 4 [l0, l1, l2, l3, l4, l5, l6, l7] st (m_SH, f, g) = m_R (m_E d) 20 m_SH.length (m_sl m_SH) Q 6 [l0, l1, l2, l3, l4, l5, l6, l7] (.inl 60 :: st) (m_SH, f, g) := m_rst rfl rfl
theorem r20_6 {d : Nat} {Q : mQ} {l0 l1 l2 l3 l4 l5 l6 l7 : Option mV} {st : mS} {f : Nat → Nat → Int32} {g : Nat → Nat → Option Nat} {x y : Int32} : m_R (m_E d) 20 m_SH.length (m_sl m_SH) Q 6 [l0, l1, l2, l3, l4, l5, l6, l7] (.inl y :: .inl x :: st) (m_SH, f, g) = (if y ≤ x then m_R (m_E d) 20 m_SH.length (m_sl m_SH) Q 23 [l0, l1, l2, l3, l4, l5, l6, l7] st (m_SH, f, g) else m_R (m_E d) 20 m_SH.length (m_sl m_SH) Q 9 [l0, l1, l2, l3, l4, l5, l6, l7] st (m_SH, f, g)) := m_rif rfl (o1 := some (.inl (23, [l0, l1, l2, l3, l4, l5, l6, l7], st, (m_SH, f, g)))) (o2 := some (.inl (9, [l0, l1, l2, l3, l4, l5, l6, l7], st, (m_SH, f, g)))) rfl
theorem r20_9 {d : Nat} {Q : mQ} {l0 l1 l2 l3 l4 l5 l6 l7 : Option mV} {st : mS} {f : Nat → Nat → Int32} {g : Nat → Nat → Option Nat} {x : Int32}  : m_R (m_E d) 20 m_SH.length (m_sl m_SH) Q 9 [l0, l1, l2, some (.inl x), l4, l5, l6, l7] st (m_SH, f, g) = m_R (m_E d) 20 m_SH.length (m_sl m_SH) Q 10 [l0, l1, l2, some (.inl x), l4, l5, l6, l7] (.inl x :: st) (m_SH, f, g) := m_rst rfl rfl
theorem r20_10 {d : Nat} {Q : mQ} {l0 l1 l2 l3 l4 l5 l6 l7 : Option mV} {st : mS} {f : Nat → Nat → Int32} {g : Nat → Nat → Option Nat}  : m_R (m_E d) 20 m_SH.length (m_sl m_SH) Q 10 [l0, l1, l2, l3, l4, l5, l6, l7] st (m_SH, f, g) = m_R (m_E d) 20 m_SH.length (m_sl m_SH) Q 12 [l0, l1, l2, l3, l4, l5, l6, l7] (.inl 10 :: st) (m_SH, f, g) := m_rst rfl rfl
theorem r20_12 {d : Nat} {Q : mQ} {l0 l1 l2 l3 l4 l5 l6 l7 : Option mV} {st : mS} {f : Nat → Nat → Int32} {g : Nat → Nat → Option Nat} {x y : Int32} : m_R (m_E d) 20 m_SH.length (m_sl m_SH) Q 12 [l0, l1, l2, l3, l4, l5, l6, l7] (.inl y :: .inl x :: st) (m_SH, f, g) = (if y ≤ x then m_R (m_E d) 20 m_SH.length (m_sl m_SH) Q 23 [l0, l1, l2, l3, l4, l5, l6, l7] st (m_SH, f, g) else m_R (m_E d) 20 m_SH.length (m_sl m_SH) Q 15 [l0, l1, l2, l3, l4, l5, l6, l7] st (m_SH, f, g)) := m_rif rfl (o1 := some (.inl (23, [l0, l1, l2, l3, l4, l5, l6, l7], st, (m_SH, f, g)))) (o2 := some (.inl (15, [l0, l1, l2, l3, l4, l5, l6, l7], st, (m_SH, f, g)))) rfl
theorem r20_15 {d : Nat} {Q : mQ} {l0 l1 l2 l3 l4 l5 l6 l7 : Option mV} {st : mS} {f : Nat → Nat → Int32} {g : Nat → Nat → Option Nat} {x : Option Nat}  : m_R (m_E d) 20 m_SH.length (m_sl m_SH) Q 15 [some (.inr x), l1, l2, l3, l4, l5, l6, l7] st (m_SH, f, g) = m_R (m_E d) 20 m_SH.length (m_sl m_SH) Q 16 [some (.inr x), l1, l2, l3, l4, l5, l6, l7] (.inr x :: st) (m_SH, f, g) := m_rst rfl rfl
theorem r20_16 {d : Nat} {Q : mQ} {l0 l1 l2 l3 l4 l5 l6 l7 : Option mV} {st : mS} {f : Nat → Nat → Int32} {g : Nat → Nat → Option Nat} {x : Int32}  : m_R (m_E d) 20 m_SH.length (m_sl m_SH) Q 16 [l0, some (.inl x), l2, l3, l4, l5, l6, l7] st (m_SH, f, g) = m_R (m_E d) 20 m_SH.length (m_sl m_SH) Q 17 [l0, some (.inl x), l2, l3, l4, l5, l6, l7] (.inl x :: st) (m_SH, f, g) := m_rst rfl rfl
theorem r20_17 {d : Nat} {Q : mQ} {l0 l1 l2 l3 l4 l5 l6 l7 : Option mV} {st : mS} {f : Nat → Nat → Int32} {g : Nat → Nat → Option Nat} {v0 : mV} {k : Nat} (hs1 : m_kn k = 0) (hs2 : m_ln k = 0) (hst : st.length ≤ 8) : m_R (m_E d) 20 m_SH.length (m_sl m_SH) Q 17 [l0, l1, l2, l3, l4, l5, l6, l7] (v0 :: .inr (some k) :: st) (m_SH, f, g) = m_E d 12 [.inr (some k), v0] (m_SH, f, g) (fun r w => m_R (m_E d) 20 m_SH.length (m_sl m_SH) Q 20 [l0, l1, l2, l3, l4, l5, l6, l7] (r.toList ++ st) w) := m_rcall (rest := st) rfl (if_pos ⟨⟨by show 1 ≤ List.length (v0 :: .inr (some k) :: st); simp only [List.length_cons]; omega, rfl, hst, fun _ => m_sho hs1 hs2⟩, Nat.le_refl _, Nat.le_refl _⟩)
theorem r20_20 {d : Nat} {Q : mQ} {l0 l1 l2 l3 l4 l5 l6 l7 : Option mV} {st : mS} {f : Nat → Nat → Int32} {g : Nat → Nat → Option Nat} {x : Int32} : m_R (m_E d) 20 m_SH.length (m_sl m_SH) Q 20 [l0, l1, l2, l3, l4, l5, l6, l7] (.inl x :: st) (m_SH, f, g) = (if x = 0 then m_R (m_E d) 20 m_SH.length (m_sl m_SH) Q 23 [l0, l1, l2, l3, l4, l5, l6, l7] st (m_SH, f, g) else m_R (m_E d) 20 m_SH.length (m_sl m_SH) Q 26 [l0, l1, l2, l3, l4, l5, l6, l7] st (m_SH, f, g)) := m_rif rfl (o1 := some (.inl (23, [l0, l1, l2, l3, l4, l5, l6, l7], st, (m_SH, f, g)))) (o2 := some (.inl (26, [l0, l1, l2, l3, l4, l5, l6, l7], st, (m_SH, f, g)))) rfl
theorem r20_23 {d : Nat} {Q : mQ} {l0 l1 l2 l3 l4 l5 l6 l7 : Option mV} {st : mS} {f : Nat → Nat → Int32} {g : Nat → Nat → Option Nat}  : m_R (m_E d) 20 m_SH.length (m_sl m_SH) Q 23 [l0, l1, l2, l3, l4, l5, l6, l7] st (m_SH, f, g) = m_R (m_E d) 20 m_SH.length (m_sl m_SH) Q 25 [l0, l1, l2, l3, l4, l5, l6, l7] (.inl 9 :: st) (m_SH, f, g) := m_rst rfl rfl
theorem r20_25 {d : Nat} {Q : mQ} {l0 l1 l2 l3 l4 l5 l6 l7 : Option mV} {f : Nat → Nat → Int32} {g : Nat → Nat → Option Nat} {x : Int32} : m_R (m_E d) 20 m_SH.length (m_sl m_SH) Q 25 [l0, l1, l2, l3, l4, l5, l6, l7] [.inl x] (m_SH, f, g) = Q (some (.inl x)) (m_SH, f, g) := m_rret (i := .ireturn) rfl (m_st_ri.trans (m_ri1 (me := 20) (N := m_SH.length) (S := m_sl m_SH) (w := (m_SH, f, g)) rfl (m_b0 rfl)))
theorem r20_26 {d : Nat} {Q : mQ} {l0 l1 l2 l3 l4 l5 l6 l7 : Option mV} {st : mS} {f : Nat → Nat → Int32} {g : Nat → Nat → Option Nat} {x : Option Nat}  : m_R (m_E d) 20 m_SH.length (m_sl m_SH) Q 26 [some (.inr x), l1, l2, l3, l4, l5, l6, l7] st (m_SH, f, g) = m_R (m_E d) 20 m_SH.length (m_sl m_SH) Q 27 [some (.inr x), l1, l2, l3, l4, l5, l6, l7] (.inr x :: st) (m_SH, f, g) := m_rst rfl rfl
theorem r20_27 {d : Nat} {Q : mQ} {l0 l1 l2 l3 l4 l5 l6 l7 : Option mV} {st : mS} {f : Nat → Nat → Int32} {g : Nat → Nat → Option Nat} {v : mV}  : m_R (m_E d) 20 m_SH.length (m_sl m_SH) Q 27 [l0, l1, l2, l3, l4, l5, l6, l7] (v :: st) (m_SH, f, g) = m_R (m_E d) 20 m_SH.length (m_sl m_SH) Q 28 [l0, l1, l2, l3, l4, l5, l6, l7] (v :: v :: st) (m_SH, f, g) := m_rst rfl rfl
theorem r20_28 {d : Nat} {Q : mQ} {l0 l1 l2 l3 l4 l5 l6 l7 : Option mV} {st : mS} {f : Nat → Nat → Int32} {g : Nat → Nat → Option Nat} {k : Nat} (hs1 : m_kn k = 0) (hs2 : m_ln k = 0) : m_R (m_E d) 20 m_SH.length (m_sl m_SH) Q 28 [l0, l1, l2, l3, l4, l5, l6, l7] (.inr (some k) :: st) (m_SH, f, g) = m_R (m_E d) 20 m_SH.length (m_sl m_SH) Q 31 [l0, l1, l2, l3, l4, l5, l6, l7] (.inl (f k 7) :: st) (m_SH, f, g) := m_rst rfl (if_pos (m_sho hs1 hs2))
theorem r20_31 {d : Nat} {Q : mQ} {l0 l1 l2 l3 l4 l5 l6 l7 : Option mV} {st : mS} {f : Nat → Nat → Int32} {g : Nat → Nat → Option Nat}  : m_R (m_E d) 20 m_SH.length (m_sl m_SH) Q 31 [l0, l1, l2, l3, l4, l5, l6, l7] st (m_SH, f, g) = m_R (m_E d) 20 m_SH.length (m_sl m_SH) Q 32 [l0, l1, l2, l3, l4, l5, l6, l7] (.inl 1 :: st) (m_SH, f, g) := m_rst rfl rfl
theorem r20_32 {d : Nat} {Q : mQ} {l0 l1 l2 l3 l4 l5 l6 l7 : Option mV} {st : mS} {f : Nat → Nat → Int32} {g : Nat → Nat → Option Nat} {x y : Int32}  : m_R (m_E d) 20 m_SH.length (m_sl m_SH) Q 32 [l0, l1, l2, l3, l4, l5, l6, l7] (.inl y :: .inl x :: st) (m_SH, f, g) = m_R (m_E d) 20 m_SH.length (m_sl m_SH) Q 33 [l0, l1, l2, l3, l4, l5, l6, l7] (.inl (x + y) :: st) (m_SH, f, g) := m_rst rfl rfl
theorem r20_33 {d : Nat} {Q : mQ} {l0 l1 l2 l3 l4 l5 l6 l7 : Option mV} {st : mS} {f : Nat → Nat → Int32} {g : Nat → Nat → Option Nat} {k : Nat} {x : Int32} (hs1 : m_kn k = 0) (hs2 : m_ln k = 0) : m_R (m_E d) 20 m_SH.length (m_sl m_SH) Q 33 [l0, l1, l2, l3, l4, l5, l6, l7] (.inl x :: .inr (some k) :: st) (m_SH, f, g) = m_R (m_E d) 20 m_SH.length (m_sl m_SH) Q 36 [l0, l1, l2, l3, l4, l5, l6, l7] st (m_SH, m_si f k 7 x, g) := m_rst rfl (if_pos ⟨m_sho hs1 hs2, Or.inl rfl⟩)
theorem r20_36 {d : Nat} {Q : mQ} {l0 l1 l2 l3 l4 l5 l6 l7 : Option mV} {st : mS} {f : Nat → Nat → Int32} {g : Nat → Nat → Option Nat} {x : Option Nat}  : m_R (m_E d) 20 m_SH.length (m_sl m_SH) Q 36 [some (.inr x), l1, l2, l3, l4, l5, l6, l7] st (m_SH, f, g) = m_R (m_E d) 20 m_SH.length (m_sl m_SH) Q 37 [some (.inr x), l1, l2, l3, l4, l5, l6, l7] (.inr x :: st) (m_SH, f, g) := m_rst rfl rfl
theorem r20_37 {d : Nat} {Q : mQ} {l0 l1 l2 l3 l4 l5 l6 l7 : Option mV} {st : mS} {f : Nat → Nat → Int32} {g : Nat → Nat → Option Nat} {k : Nat} (hs1 : m_kn k = 0) (hs2 : m_ln k = 0) : m_R (m_E d) 20 m_SH.length (m_sl m_SH) Q 37 [l0, l1, l2, l3, l4, l5, l6, l7] (.inr (some k) :: st) (m_SH, f, g) = m_R (m_E d) 20 m_SH.length (m_sl m_SH) Q 40 [l0, l1, l2, l3, l4, l5, l6, l7] (.inr (g k 1) :: st) (m_SH, f, g) := m_rst rfl (if_pos (m_sho hs1 hs2))
theorem r20_40 {d : Nat} {Q : mQ} {l0 l1 l2 l3 l4 l5 l6 l7 : Option mV} {st : mS} {f : Nat → Nat → Int32} {g : Nat → Nat → Option Nat} {x : Int32}  : m_R (m_E d) 20 m_SH.length (m_sl m_SH) Q 40 [l0, some (.inl x), l2, l3, l4, l5, l6, l7] st (m_SH, f, g) = m_R (m_E d) 20 m_SH.length (m_sl m_SH) Q 41 [l0, some (.inl x), l2, l3, l4, l5, l6, l7] (.inl x :: st) (m_SH, f, g) := m_rst rfl rfl
theorem r20_41 {d : Nat} {Q : mQ} {l0 l1 l2 l3 l4 l5 l6 l7 : Option mV} {st : mS} {f : Nat → Nat → Int32} {g : Nat → Nat → Option Nat} {k : Nat} {i : Int32} (hs1 : m_kn k = 3 ∨ m_kn k = 4) (hi : ¬ (i < 0 ∨ m_ln k ≤ i.toNatClampNeg)) : m_R (m_E d) 20 m_SH.length (m_sl m_SH) Q 41 [l0, l1, l2, l3, l4, l5, l6, l7] (.inl i :: .inr (some k) :: st) (m_SH, f, g) = m_R (m_E d) 20 m_SH.length (m_sl m_SH) Q 42 [l0, l1, l2, l3, l4, l5, l6, l7] (.inr (g k i.toNatClampNeg) :: st) (m_SH, f, g) := m_rst rfl (m_xa_of hs1 hi)
theorem r20_42 {d : Nat} {Q : mQ} {l0 l1 l2 l3 l4 l5 l6 l7 : Option mV} {st : mS} {f : Nat → Nat → Int32} {g : Nat → Nat → Option Nat} {x : Option Nat}  : m_R (m_E d) 20 m_SH.length (m_sl m_SH) Q 42 [l0, l1, l2, l3, l4, l5, l6, l7] (.inr x :: st) (m_SH, f, g) = m_R (m_E d) 20 m_SH.length (m_sl m_SH) Q 44 [l0, l1, l2, l3, some (.inr x), l5, l6, l7] st (m_SH, f, g) := m_rst rfl rfl
theorem r20_44 {d : Nat} {Q : mQ} {l0 l1 l2 l3 l4 l5 l6 l7 : Option mV} {st : mS} {f : Nat → Nat → Int32} {g : Nat → Nat → Option Nat} {x : Option Nat}  : m_R (m_E d) 20 m_SH.length (m_sl m_SH) Q 44 [some (.inr x), l1, l2, l3, l4, l5, l6, l7] st (m_SH, f, g) = m_R (m_E d) 20 m_SH.length (m_sl m_SH) Q 45 [some (.inr x), l1, l2, l3, l4, l5, l6, l7] (.inr x :: st) (m_SH, f, g) := m_rst rfl rfl
theorem r20_45 {d : Nat} {Q : mQ} {l0 l1 l2 l3 l4 l5 l6 l7 : Option mV} {st : mS} {f : Nat → Nat → Int32} {g : Nat → Nat → Option Nat} {x : Option Nat}  : m_R (m_E d) 20 m_SH.length (m_sl m_SH) Q 45 [some (.inr x), l1, l2, l3, l4, l5, l6, l7] st (m_SH, f, g) = m_R (m_E d) 20 m_SH.length (m_sl m_SH) Q 46 [some (.inr x), l1, l2, l3, l4, l5, l6, l7] (.inr x :: st) (m_SH, f, g) := m_rst rfl rfl
theorem r20_46 {d : Nat} {Q : mQ} {l0 l1 l2 l3 l4 l5 l6 l7 : Option mV} {st : mS} {f : Nat → Nat → Int32} {g : Nat → Nat → Option Nat} {k : Nat} (hs1 : m_kn k = 0) (hs2 : m_ln k = 0) : m_R (m_E d) 20 m_SH.length (m_sl m_SH) Q 46 [l0, l1, l2, l3, l4, l5, l6, l7] (.inr (some k) :: st) (m_SH, f, g) = m_R (m_E d) 20 m_SH.length (m_sl m_SH) Q 49 [l0, l1, l2, l3, l4, l5, l6, l7] (.inr (g k 4) :: st) (m_SH, f, g) := m_rst rfl (if_pos (m_sho hs1 hs2))
theorem r20_49 {d : Nat} {Q : mQ} {l0 l1 l2 l3 l4 l5 l6 l7 : Option mV} {st : mS} {f : Nat → Nat → Int32} {g : Nat → Nat → Option Nat} {x : Int32}  : m_R (m_E d) 20 m_SH.length (m_sl m_SH) Q 49 [l0, l1, l2, some (.inl x), l4, l5, l6, l7] st (m_SH, f, g) = m_R (m_E d) 20 m_SH.length (m_sl m_SH) Q 50 [l0, l1, l2, some (.inl x), l4, l5, l6, l7] (.inl x :: st) (m_SH, f, g) := m_rst rfl rfl
theorem r20_50 {d : Nat} {Q : mQ} {l0 l1 l2 l3 l4 l5 l6 l7 : Option mV} {st : mS} {f : Nat → Nat → Int32} {g : Nat → Nat → Option Nat} {k : Nat} {i : Int32} (hs1 : m_kn k = 3 ∨ m_kn k = 4) (hi : ¬ (i < 0 ∨ m_ln k ≤ i.toNatClampNeg)) : m_R (m_E d) 20 m_SH.length (m_sl m_SH) Q 50 [l0, l1, l2, l3, l4, l5, l6, l7] (.inl i :: .inr (some k) :: st) (m_SH, f, g) = m_R (m_E d) 20 m_SH.length (m_sl m_SH) Q 51 [l0, l1, l2, l3, l4, l5, l6, l7] (.inr (g k i.toNatClampNeg) :: st) (m_SH, f, g) := m_rst rfl (m_xa_of hs1 hi)
theorem r20_51 {d : Nat} {Q : mQ} {l0 l1 l2 l3 l4 l5 l6 l7 : Option mV} {st : mS} {f : Nat → Nat → Int32} {g : Nat → Nat → Option Nat} {x : Option Nat}  : m_R (m_E d) 20 m_SH.length (m_sl m_SH) Q 51 [l0, l1, l2, l3, some (.inr x), l5, l6, l7] st (m_SH, f, g) = m_R (m_E d) 20 m_SH.length (m_sl m_SH) Q 53 [l0, l1, l2, l3, some (.inr x), l5, l6, l7] (.inr x :: st) (m_SH, f, g) := m_rst rfl rfl
theorem r20_53 {d : Nat} {Q : mQ} {l0 l1 l2 l3 l4 l5 l6 l7 : Option mV} {st : mS} {f : Nat → Nat → Int32} {g : Nat → Nat → Option Nat} {k : Nat} (hs1 : m_kn k = 0) (hs2 : m_ln k = 2) : m_R (m_E d) 20 m_SH.length (m_sl m_SH) Q 53 [l0, l1, l2, l3, l4, l5, l6, l7] (.inr (some k) :: st) (m_SH, f, g) = m_R (m_E d) 20 m_SH.length (m_sl m_SH) Q 56 [l0, l1, l2, l3, l4, l5, l6, l7] (.inl (f k 0) :: st) (m_SH, f, g) := m_rst rfl (if_pos (m_sho hs1 hs2))
theorem r20_56 {d : Nat} {Q : mQ} {l0 l1 l2 l3 l4 l5 l6 l7 : Option mV} {st : mS} {f : Nat → Nat → Int32} {g : Nat → Nat → Option Nat} {x : Option Nat}  : m_R (m_E d) 20 m_SH.length (m_sl m_SH) Q 56 [l0, l1, some (.inr x), l3, l4, l5, l6, l7] st (m_SH, f, g) = m_R (m_E d) 20 m_SH.length (m_sl m_SH) Q 57 [l0, l1, some (.inr x), l3, l4, l5, l6, l7] (.inr x :: st) (m_SH, f, g) := m_rst rfl rfl
theorem r20_57 {d : Nat} {Q : mQ} {l0 l1 l2 l3 l4 l5 l6 l7 : Option mV} {st : mS} {f : Nat → Nat → Int32} {g : Nat → Nat → Option Nat} {v0 v1 v2 : mV} {k : Nat} (hs1 : m_kn k = 0) (hs2 : m_ln k = 0) (hst : st.length ≤ 8) : m_R (m_E d) 20 m_SH.length (m_sl m_SH) Q 57 [l0, l1, l2, l3, l4, l5, l6, l7] (v2 :: v1 :: v0 :: .inr (some k) :: st) (m_SH, f, g) = m_E d 21 [.inr (some k), v0, v1, v2] (m_SH, f, g) (fun r w => m_R (m_E d) 20 m_SH.length (m_sl m_SH) Q 60 [l0, l1, l2, l3, l4, l5, l6, l7] (r.toList ++ st) w) := m_rcall (rest := st) rfl (if_pos ⟨⟨by show 3 ≤ List.length (v2 :: v1 :: v0 :: .inr (some k) :: st); simp only [List.length_cons]; omega, rfl, hst, fun _ => m_sho hs1 hs2⟩, Nat.le_refl _, Nat.le_refl _⟩)
theorem r20_60 {d : Nat} {Q : mQ} {l0 l1 l2 l3 l4 l5 l6 l7 : Option mV} {st : mS} {f : Nat → Nat → Int32} {g : Nat → Nat → Option Nat} {x : Int32}  : m_R (m_E d) 20 m_SH.length (m_sl m_SH) Q 60 [l0, l1, l2, l3, l4, l5, l6, l7] (.inl x :: st) (m_SH, f, g) = m_R (m_E d) 20 m_SH.length (m_sl m_SH) Q 62 [l0, l1, l2, l3, l4, some (.inl x), l6, l7] st (m_SH, f, g) := m_rst rfl rfl
theorem r20_62 {d : Nat} {Q : mQ} {l0 l1 l2 l3 l4 l5 l6 l7 : Option mV} {st : mS} {f : Nat → Nat → Int32} {g : Nat → Nat → Option Nat} {x : Int32}  : m_R (m_E d) 20 m_SH.length (m_sl m_SH) Q 62 [l0, l1, l2, l3, l4, some (.inl x), l6, l7] st (m_SH, f, g) = m_R (m_E d) 20 m_SH.length (m_sl m_SH) Q 64 [l0, l1, l2, l3, l4, some (.inl x), l6, l7] (.inl x :: st) (m_SH, f, g) := m_rst rfl rfl
theorem r20_64 {d : Nat} {Q : mQ} {l0 l1 l2 l3 l4 l5 l6 l7 : Option mV} {st : mS} {f : Nat → Nat → Int32} {g : Nat → Nat → Option Nat}  : m_R (m_E d) 20 m_SH.length (m_sl m_SH) Q 64 [l0, l1, l2, l3, l4, l5, l6, l7] st (m_SH, f, g) = m_R (m_E d) 20 m_SH.length (m_sl m_SH) Q 65 [l0, l1, l2, l3, l4, l5, l6, l7] (.inl (-1) :: st) (m_SH, f, g) := m_rst rfl rfl
theorem r20_65 {d : Nat} {Q : mQ} {l0 l1 l2 l3 l4 l5 l6 l7 : Option mV} {st : mS} {f : Nat → Nat → Int32} {g : Nat → Nat → Option Nat} {x y : Int32} : m_R (m_E d) 20 m_SH.length (m_sl m_SH) Q 65 [l0, l1, l2, l3, l4, l5, l6, l7] (.inl y :: .inl x :: st) (m_SH, f, g) = (if x = y then m_R (m_E d) 20 m_SH.length (m_sl m_SH) Q 71 [l0, l1, l2, l3, l4, l5, l6, l7] st (m_SH, f, g) else m_R (m_E d) 20 m_SH.length (m_sl m_SH) Q 68 [l0, l1, l2, l3, l4, l5, l6, l7] st (m_SH, f, g)) := m_rif rfl (o1 := some (.inl (71, [l0, l1, l2, l3, l4, l5, l6, l7], st, (m_SH, f, g)))) (o2 := some (.inl (68, [l0, l1, l2, l3, l4, l5, l6, l7], st, (m_SH, f, g)))) rfl
theorem r20_68 {d : Nat} {Q : mQ} {l0 l1 l2 l3 l4 l5 l6 l7 : Option mV} {st : mS} {f : Nat → Nat → Int32} {g : Nat → Nat → Option Nat} {x : Int32}  : m_R (m_E d) 20 m_SH.length (m_sl m_SH) Q 68 [l0, l1, l2, l3, l4, some (.inl x), l6, l7] st (m_SH, f, g) = m_R (m_E d) 20 m_SH.length (m_sl m_SH) Q 70 [l0, l1, l2, l3, l4, some (.inl x), l6, l7] (.inl x :: st) (m_SH, f, g) := m_rst rfl rfl
theorem r20_70 {d : Nat} {Q : mQ} {l0 l1 l2 l3 l4 l5 l6 l7 : Option mV} {f : Nat → Nat → Int32} {g : Nat → Nat → Option Nat} {x : Int32} : m_R (m_E d) 20 m_SH.length (m_sl m_SH) Q 70 [l0, l1, l2, l3, l4, l5, l6, l7] [.inl x] (m_SH, f, g) = Q (some (.inl x)) (m_SH, f, g) := m_rret (i := .ireturn) rfl (m_st_ri.trans (m_ri1 (me := 20) (N := m_SH.length) (S := m_sl m_SH) (w := (m_SH, f, g)) rfl (m_b0 rfl)))
theorem r20_71 {d : Nat} {Q : mQ} {l0 l1 l2 l3 l4 l5 l6 l7 : Option mV} {st : mS} {f : Nat → Nat → Int32} {g : Nat → Nat → Option Nat}  : m_R (m_E d) 20 m_SH.length (m_sl m_SH) Q 71 [l0, l1, l2, l3, l4, l5, l6, l7] st (m_SH, f, g) = m_R (m_E d) 20 m_SH.length (m_sl m_SH) Q 72 [l0, l1, l2, l3, l4, l5, l6, l7] (.inl (-1) :: st) (m_SH, f, g) := m_rst rfl rfl
theorem r20_72 {d : Nat} {Q : mQ} {l0 l1 l2 l3 l4 l5 l6 l7 : Option mV} {st : mS} {f : Nat → Nat → Int32} {g : Nat → Nat → Option Nat} {x : Int32}  : m_R (m_E d) 20 m_SH.length (m_sl m_SH) Q 72 [l0, l1, l2, l3, l4, l5, l6, l7] (.inl x :: st) (m_SH, f, g) = m_R (m_E d) 20 m_SH.length (m_sl m_SH) Q 74 [l0, l1, l2, l3, l4, l5, some (.inl x), l7] st (m_SH, f, g) := m_rst rfl rfl
theorem r20_74 {d : Nat} {Q : mQ} {l0 l1 l2 l3 l4 l5 l6 l7 : Option mV} {st : mS} {f : Nat → Nat → Int32} {g : Nat → Nat → Option Nat}  : m_R (m_E d) 20 m_SH.length (m_sl m_SH) Q 74 [l0, l1, l2, l3, l4, l5, l6, l7] st (m_SH, f, g) = m_R (m_E d) 20 m_SH.length (m_sl m_SH) Q 75 [l0, l1, l2, l3, l4, l5, l6, l7] (.inl 0 :: st) (m_SH, f, g) := m_rst rfl rfl
theorem r20_75 {d : Nat} {Q : mQ} {l0 l1 l2 l3 l4 l5 l6 l7 : Option mV} {st : mS} {f : Nat → Nat → Int32} {g : Nat → Nat → Option Nat} {x : Int32}  : m_R (m_E d) 20 m_SH.length (m_sl m_SH) Q 75 [l0, l1, l2, l3, l4, l5, l6, l7] (.inl x :: st) (m_SH, f, g) = m_R (m_E d) 20 m_SH.length (m_sl m_SH) Q 77 [l0, l1, l2, l3, l4, l5, l6, some (.inl x)] st (m_SH, f, g) := m_rst rfl rfl
theorem r20_77 {d : Nat} {Q : mQ} {l0 l1 l2 l3 l4 l5 l6 l7 : Option mV} {st : mS} {f : Nat → Nat → Int32} {g : Nat → Nat → Option Nat} {x : Int32}  : m_R (m_E d) 20 m_SH.length (m_sl m_SH) Q 77 [l0, l1, l2, l3, l4, l5, l6, some (.inl x)] st (m_SH, f, g) = m_R (m_E d) 20 m_SH.length (m_sl m_SH) Q 79 [l0, l1, l2, l3, l4, l5, l6, some (.inl x)] (.inl x :: st) (m_SH, f, g) := m_rst rfl rfl
theorem r20_79 {d : Nat} {Q : mQ} {l0 l1 l2 l3 l4 l5 l6 l7 : Option mV} {st : mS} {f : Nat → Nat → Int32} {g : Nat → Nat → Option Nat} {x : Option Nat}  : m_R (m_E d) 20 m_SH.length (m_sl m_SH) Q 79 [l0, l1, l2, l3, some (.inr x), l5, l6, l7] st (m_SH, f, g) = m_R (m_E d) 20 m_SH.length (m_sl m_SH) Q 81 [l0, l1, l2, l3, some (.inr x), l5, l6, l7] (.inr x :: st) (m_SH, f, g) := m_rst rfl rfl
theorem r20_81 {d : Nat} {Q : mQ} {l0 l1 l2 l3 l4 l5 l6 l7 : Option mV} {st : mS} {f : Nat → Nat → Int32} {g : Nat → Nat → Option Nat} {k : Nat} (hs1 : m_kn k = 0) (hs2 : m_ln k = 2) : m_R (m_E d) 20 m_SH.length (m_sl m_SH) Q 81 [l0, l1, l2, l3, l4, l5, l6, l7] (.inr (some k) :: st) (m_SH, f, g) = m_R (m_E d) 20 m_SH.length (m_sl m_SH) Q 84 [l0, l1, l2, l3, l4, l5, l6, l7] (.inl (f k 7) :: st) (m_SH, f, g) := m_rst rfl (if_pos (m_sho hs1 hs2))
theorem r20_84 {d : Nat} {Q : mQ} {l0 l1 l2 l3 l4 l5 l6 l7 : Option mV} {st : mS} {f : Nat → Nat → Int32} {g : Nat → Nat → Option Nat} {x y : Int32} : m_R (m_E d) 20 m_SH.length (m_sl m_SH) Q 84 [l0, l1, l2, l3, l4, l5, l6, l7] (.inl y :: .inl x :: st) (m_SH, f, g) = (if y ≤ x then m_R (m_E d) 20 m_SH.length (m_sl m_SH) Q 130 [l0, l1, l2, l3, l4, l5, l6, l7] st (m_SH, f, g) else m_R (m_E d) 20 m_SH.length (m_sl m_SH) Q 87 [l0, l1, l2, l3, l4, l5, l6, l7] st (m_SH, f, g)) := m_rif rfl (o1 := some (.inl (130, [l0, l1, l2, l3, l4, l5, l6, l7], st, (m_SH, f, g)))) (o2 := some (.inl (87, [l0, l1, l2, l3, l4, l5, l6, l7], st, (m_SH, f, g)))) rfl
theorem r20_87 {d : Nat} {Q : mQ} {l0 l1 l2 l3 l4 l5 l6 l7 : Option mV} {st : mS} {f : Nat → Nat → Int32} {g : Nat → Nat → Option Nat} {x : Int32}  : m_R (m_E d) 20 m_SH.length (m_sl m_SH) Q 87 [l0, l1, l2, l3, l4, l5, some (.inl x), l7] st (m_SH, f, g) = m_R (m_E d) 20 m_SH.length (m_sl m_SH) Q 89 [l0, l1, l2, l3, l4, l5, some (.inl x), l7] (.inl x :: st) (m_SH, f, g) := m_rst rfl rfl
theorem r20_89 {d : Nat} {Q : mQ} {l0 l1 l2 l3 l4 l5 l6 l7 : Option mV} {st : mS} {f : Nat → Nat → Int32} {g : Nat → Nat → Option Nat}  : m_R (m_E d) 20 m_SH.length (m_sl m_SH) Q 89 [l0, l1, l2, l3, l4, l5, l6, l7] st (m_SH, f, g) = m_R (m_E d) 20 m_SH.length (m_sl m_SH) Q 90 [l0, l1, l2, l3, l4, l5, l6, l7] (.inl (-1) :: st) (m_SH, f, g) := m_rst rfl rfl
theorem r20_90 {d : Nat} {Q : mQ} {l0 l1 l2 l3 l4 l5 l6 l7 : Option mV} {st : mS} {f : Nat → Nat → Int32} {g : Nat → Nat → Option Nat} {x y : Int32} : m_R (m_E d) 20 m_SH.length (m_sl m_SH) Q 90 [l0, l1, l2, l3, l4, l5, l6, l7] (.inl y :: .inl x :: st) (m_SH, f, g) = (if x = y then m_R (m_E d) 20 m_SH.length (m_sl m_SH) Q 93 [l0, l1, l2, l3, l4, l5, l6, l7] st (m_SH, f, g) else m_R (m_E d) 20 m_SH.length (m_sl m_SH) Q 130 [l0, l1, l2, l3, l4, l5, l6, l7] st (m_SH, f, g)) := m_rif rfl (o1 := some (.inl (93, [l0, l1, l2, l3, l4, l5, l6, l7], st, (m_SH, f, g)))) (o2 := some (.inl (130, [l0, l1, l2, l3, l4, l5, l6, l7], st, (m_SH, f, g)))) rfl
theorem r20_93 {d : Nat} {Q : mQ} {l0 l1 l2 l3 l4 l5 l6 l7 : Option mV} {st : mS} {f : Nat → Nat → Int32} {g : Nat → Nat → Option Nat} {x : Option Nat}  : m_R (m_E d) 20 m_SH.length (m_sl m_SH) Q 93 [some (.inr x), l1, l2, l3, l4, l5, l6, l7] st (m_SH, f, g) = m_R (m_E d) 20 m_SH.length (m_sl m_SH) Q 94 [some (.inr x), l1, l2, l3, l4, l5, l6, l7] (.inr x :: st) (m_SH, f, g) := m_rst rfl rfl
theorem r20_94 {d : Nat} {Q : mQ} {l0 l1 l2 l3 l4 l5 l6 l7 : Option mV} {st : mS} {f : Nat → Nat → Int32} {g : Nat → Nat → Option Nat} {x : Option Nat}  : m_R (m_E d) 20 m_SH.length (m_sl m_SH) Q 94 [l0, l1, l2, l3, some (.inr x), l5, l6, l7] st (m_SH, f, g) = m_R (m_E d) 20 m_SH.length (m_sl m_SH) Q 96 [l0, l1, l2, l3, some (.inr x), l5, l6, l7] (.inr x :: st) (m_SH, f, g) := m_rst rfl rfl
theorem r20_96 {d : Nat} {Q : mQ} {l0 l1 l2 l3 l4 l5 l6 l7 : Option mV} {st : mS} {f : Nat → Nat → Int32} {g : Nat → Nat → Option Nat} {k : Nat} (hs1 : m_kn k = 0) (hs2 : m_ln k = 2) : m_R (m_E d) 20 m_SH.length (m_sl m_SH) Q 96 [l0, l1, l2, l3, l4, l5, l6, l7] (.inr (some k) :: st) (m_SH, f, g) = m_R (m_E d) 20 m_SH.length (m_sl m_SH) Q 99 [l0, l1, l2, l3, l4, l5, l6, l7] (.inr (g k 4) :: st) (m_SH, f, g) := m_rst rfl (if_pos (m_sho hs1 hs2))
theorem r20_99 {d : Nat} {Q : mQ} {l0 l1 l2 l3 l4 l5 l6 l7 : Option mV} {st : mS} {f : Nat → Nat → Int32} {g : Nat → Nat → Option Nat} {x : Int32}  : m_R (m_E d) 20 m_SH.length (m_sl m_SH) Q 99 [l0, l1, l2, l3, l4, l5, l6, some (.inl x)] st (m_SH, f, g) = m_R (m_E d) 20 m_SH.length (m_sl m_SH) Q 101 [l0, l1, l2, l3, l4, l5, l6, some (.inl x)] (.inl x :: st) (m_SH, f, g) := m_rst rfl rfl
theorem r20_101 {d : Nat} {Q : mQ} {l0 l1 l2 l3 l4 l5 l6 l7 : Option mV} {st : mS} {f : Nat → Nat → Int32} {g : Nat → Nat → Option Nat} {k : Nat} {i : Int32} (hs1 : m_kn k = 1) (hi : ¬ (i < 0 ∨ m_ln k ≤ i.toNatClampNeg)) : m_R (m_E d) 20 m_SH.length (m_sl m_SH) Q 101 [l0, l1, l2, l3, l4, l5, l6, l7] (.inl i :: .inr (some k) :: st) (m_SH, f, g) = m_R (m_E d) 20 m_SH.length (m_sl m_SH) Q 102 [l0, l1, l2, l3, l4, l5, l6, l7] (.inl (f k i.toNatClampNeg) :: st) (m_SH, f, g) := m_rst rfl (m_xi_of hs1 hi)
theorem r20_102 {d : Nat} {Q : mQ} {l0 l1 l2 l3 l4 l5 l6 l7 : Option mV} {st : mS} {f : Nat → Nat → Int32} {g : Nat → Nat → Option Nat} {x : Option Nat}  : m_R (m_E d) 20 m_SH.length (m_sl m_SH) Q 102 [l0, l1, l2, l3, some (.inr x), l5, l6, l7] st (m_SH, f, g) = m_R (m_E d) 20 m_SH.length (m_sl m_SH) Q 104 [l0, l1, l2, l3, some (.inr x), l5, l6, l7] (.inr x :: st) (m_SH, f, g) := m_rst rfl rfl
theorem r20_104 {d : Nat} {Q : mQ} {l0 l1 l2 l3 l4 l5 l6 l7 : Option mV} {st : mS} {f : Nat → Nat → Int32} {g : Nat → Nat → Option Nat} {k : Nat} (hs1 : m_kn k = 0) (hs2 : m_ln k = 2) : m_R (m_E d) 20 m_SH.length (m_sl m_SH) Q 104 [l0, l1, l2, l3, l4, l5, l6, l7] (.inr (some k) :: st) (m_SH, f, g) = m_R (m_E d) 20 m_SH.length (m_sl m_SH) Q 107 [l0, l1, l2, l3, l4, l5, l6, l7] (.inr (g k 5) :: st) (m_SH, f, g) := m_rst rfl (if_pos (m_sho hs1 hs2))
theorem r20_107 {d : Nat} {Q : mQ} {l0 l1 l2 l3 l4 l5 l6 l7 : Option mV} {st : mS} {f : Nat → Nat → Int32} {g : Nat → Nat → Option Nat} {x : Int32}  : m_R (m_E d) 20 m_SH.length (m_sl m_SH) Q 107 [l0, l1, l2, l3, l4, l5, l6, some (.inl x)] st (m_SH, f, g) = m_R (m_E d) 20 m_SH.length (m_sl m_SH) Q 109 [l0, l1, l2, l3, l4, l5, l6, some (.inl x)] (.inl x :: st) (m_SH, f, g) := m_rst rfl rfl
theorem r20_109 {d : Nat} {Q : mQ} {l0 l1 l2 l3 l4 l5 l6 l7 : Option mV} {st : mS} {f : Nat → Nat → Int32} {g : Nat → Nat → Option Nat} {k : Nat} {i : Int32} (hs1 : m_kn k = 1) (hi : ¬ (i < 0 ∨ m_ln k ≤ i.toNatClampNeg)) : m_R (m_E d) 20 m_SH.length (m_sl m_SH) Q 109 [l0, l1, l2, l3, l4, l5, l6, l7] (.inl i :: .inr (some k) :: st) (m_SH, f, g) = m_R (m_E d) 20 m_SH.length (m_sl m_SH) Q 110 [l0, l1, l2, l3, l4, l5, l6, l7] (.inl (f k i.toNatClampNeg) :: st) (m_SH, f, g) := m_rst rfl (m_xi_of hs1 hi)
theorem r20_110 {d : Nat} {Q : mQ} {l0 l1 l2 l3 l4 l5 l6 l7 : Option mV} {st : mS} {f : Nat → Nat → Int32} {g : Nat → Nat → Option Nat} {x : Option Nat}  : m_R (m_E d) 20 m_SH.length (m_sl m_SH) Q 110 [l0, l1, l2, l3, some (.inr x), l5, l6, l7] st (m_SH, f, g) = m_R (m_E d) 20 m_SH.length (m_sl m_SH) Q 112 [l0, l1, l2, l3, some (.inr x), l5, l6, l7] (.inr x :: st) (m_SH, f, g) := m_rst rfl rfl
theorem r20_112 {d : Nat} {Q : mQ} {l0 l1 l2 l3 l4 l5 l6 l7 : Option mV} {st : mS} {f : Nat → Nat → Int32} {g : Nat → Nat → Option Nat} {k : Nat} (hs1 : m_kn k = 0) (hs2 : m_ln k = 2) : m_R (m_E d) 20 m_SH.length (m_sl m_SH) Q 112 [l0, l1, l2, l3, l4, l5, l6, l7] (.inr (some k) :: st) (m_SH, f, g) = m_R (m_E d) 20 m_SH.length (m_sl m_SH) Q 115 [l0, l1, l2, l3, l4, l5, l6, l7] (.inr (g k 6) :: st) (m_SH, f, g) := m_rst rfl (if_pos (m_sho hs1 hs2))
theorem r20_115 {d : Nat} {Q : mQ} {l0 l1 l2 l3 l4 l5 l6 l7 : Option mV} {st : mS} {f : Nat → Nat → Int32} {g : Nat → Nat → Option Nat} {x : Int32}  : m_R (m_E d) 20 m_SH.length (m_sl m_SH) Q 115 [l0, l1, l2, l3, l4, l5, l6, some (.inl x)] st (m_SH, f, g) = m_R (m_E d) 20 m_SH.length (m_sl m_SH) Q 117 [l0, l1, l2, l3, l4, l5, l6, some (.inl x)] (.inl x :: st) (m_SH, f, g) := m_rst rfl rfl
theorem r20_117 {d : Nat} {Q : mQ} {l0 l1 l2 l3 l4 l5 l6 l7 : Option mV} {st : mS} {f : Nat → Nat → Int32} {g : Nat → Nat → Option Nat} {k : Nat} {i : Int32} (hs1 : m_kn k = 1) (hi : ¬ (i < 0 ∨ m_ln k ≤ i.toNatClampNeg)) : m_R (m_E d) 20 m_SH.length (m_sl m_SH) Q 117 [l0, l1, l2, l3, l4, l5, l6, l7] (.inl i :: .inr (some k) :: st) (m_SH, f, g) = m_R (m_E d) 20 m_SH.length (m_sl m_SH) Q 118 [l0, l1, l2, l3, l4, l5, l6, l7] (.inl (f k i.toNatClampNeg) :: st) (m_SH, f, g) := m_rst rfl (m_xi_of hs1 hi)
theorem r20_118 {d : Nat} {Q : mQ} {l0 l1 l2 l3 l4 l5 l6 l7 : Option mV} {st : mS} {f : Nat → Nat → Int32} {g : Nat → Nat → Option Nat} {x : Int32}  : m_R (m_E d) 20 m_SH.length (m_sl m_SH) Q 118 [l0, l1, l2, some (.inl x), l4, l5, l6, l7] st (m_SH, f, g) = m_R (m_E d) 20 m_SH.length (m_sl m_SH) Q 119 [l0, l1, l2, some (.inl x), l4, l5, l6, l7] (.inl x :: st) (m_SH, f, g) := m_rst rfl rfl
theorem r20_119 {d : Nat} {Q : mQ} {l0 l1 l2 l3 l4 l5 l6 l7 : Option mV} {st : mS} {f : Nat → Nat → Int32} {g : Nat → Nat → Option Nat} {v0 v1 v2 v3 : mV} {k : Nat} (hs1 : m_kn k = 0) (hs2 : m_ln k = 0) (hst : st.length ≤ 8) : m_R (m_E d) 20 m_SH.length (m_sl m_SH) Q 119 [l0, l1, l2, l3, l4, l5, l6, l7] (v3 :: v2 :: v1 :: v0 :: .inr (some k) :: st) (m_SH, f, g) = m_E d 28 [.inr (some k), v0, v1, v2, v3] (m_SH, f, g) (fun r w => m_R (m_E d) 20 m_SH.length (m_sl m_SH) Q 122 [l0, l1, l2, l3, l4, l5, l6, l7] (r.toList ++ st) w) := m_rcall (rest := st) rfl (if_pos ⟨⟨by show 4 ≤ List.length (v3 :: v2 :: v1 :: v0 :: .inr (some k) :: st); simp only [List.length_cons]; omega, rfl, hst, fun _ => m_sho hs1 hs2⟩, Nat.le_refl _, Nat.le_refl _⟩)
theorem r20_122 {d : Nat} {Q : mQ} {l0 l1 l2 l3 l4 l5 l6 l7 : Option mV} {st : mS} {f : Nat → Nat → Int32} {g : Nat → Nat → Option Nat} {x : Int32}  : m_R (m_E d) 20 m_SH.length (m_sl m_SH) Q 122 [l0, l1, l2, l3, l4, l5, l6, l7] (.inl x :: st) (m_SH, f, g) = m_R (m_E d) 20 m_SH.length (m_sl m_SH) Q 124 [l0, l1, l2, l3, l4, l5, some (.inl x), l7] st (m_SH, f, g) := m_rst rfl rfl
theorem r20_124 {d : Nat} {Q : mQ} {l0 l1 l2 l3 l4 l5 l6 l7 : Option mV} {st : mS} {f : Nat → Nat → Int32} {g : Nat → Nat → Option Nat} {x : Int32}  : m_R (m_E d) 20 m_SH.length (m_sl m_SH) Q 124 [l0, l1, l2, l3, l4, l5, l6, some (.inl x)] st (m_SH, f, g) = m_R (m_E d) 20 m_SH.length (m_sl m_SH) Q 127 [l0, l1, l2, l3, l4, l5, l6, some (.inl (x + 1))] st (m_SH, f, g) := m_rst rfl rfl
theorem r20_127 {d : Nat} {Q : mQ} {l0 l1 l2 l3 l4 l5 l6 l7 : Option mV} {st : mS} {f : Nat → Nat → Int32} {g : Nat → Nat → Option Nat}  : m_R (m_E d) 20 m_SH.length (m_sl m_SH) Q 127 [l0, l1, l2, l3, l4, l5, l6, l7] st (m_SH, f, g) = m_R (m_E d) 20 m_SH.length (m_sl m_SH) Q 77 [l0, l1, l2, l3, l4, l5, l6, l7] st (m_SH, f, g) := m_rst rfl rfl
theorem r20_130 {d : Nat} {Q : mQ} {l0 l1 l2 l3 l4 l5 l6 l7 : Option mV} {st : mS} {f : Nat → Nat → Int32} {g : Nat → Nat → Option Nat} {x : Option Nat}  : m_R (m_E d) 20 m_SH.length (m_sl m_SH) Q 130 [some (.inr x), l1, l2, l3, l4, l5, l6, l7] st (m_SH, f, g) = m_R (m_E d) 20 m_SH.length (m_sl m_SH) Q 131 [some (.inr x), l1, l2, l3, l4, l5, l6, l7] (.inr x :: st) (m_SH, f, g) := m_rst rfl rfl
theorem r20_131 {d : Nat} {Q : mQ} {l0 l1 l2 l3 l4 l5 l6 l7 : Option mV} {st : mS} {f : Nat → Nat → Int32} {g : Nat → Nat → Option Nat} {x : Option Nat}  : m_R (m_E d) 20 m_SH.length (m_sl m_SH) Q 131 [some (.inr x), l1, l2, l3, l4, l5, l6, l7] st (m_SH, f, g) = m_R (m_E d) 20 m_SH.length (m_sl m_SH) Q 132 [some (.inr x), l1, l2, l3, l4, l5, l6, l7] (.inr x :: st) (m_SH, f, g) := m_rst rfl rfl
theorem r20_132 {d : Nat} {Q : mQ} {l0 l1 l2 l3 l4 l5 l6 l7 : Option mV} {st : mS} {f : Nat → Nat → Int32} {g : Nat → Nat → Option Nat} {k : Nat} (hs1 : m_kn k = 0) (hs2 : m_ln k = 0) : m_R (m_E d) 20 m_SH.length (m_sl m_SH) Q 132 [l0, l1, l2, l3, l4, l5, l6, l7] (.inr (some k) :: st) (m_SH, f, g) = m_R (m_E d) 20 m_SH.length (m_sl m_SH) Q 135 [l0, l1, l2, l3, l4, l5, l6, l7] (.inr (g k 4) :: st) (m_SH, f, g) := m_rst rfl (if_pos (m_sho hs1 hs2))
theorem r20_135 {d : Nat} {Q : mQ} {l0 l1 l2 l3 l4 l5 l6 l7 : Option mV} {st : mS} {f : Nat → Nat → Int32} {g : Nat → Nat → Option Nat} {x : Int32}  : m_R (m_E d) 20 m_SH.length (m_sl m_SH) Q 135 [l0, l1, l2, some (.inl x), l4, l5, l6, l7] st (m_SH, f, g) = m_R (m_E d) 20 m_SH.length (m_sl m_SH) Q 136 [l0, l1, l2, some (.inl x), l4, l5, l6, l7] (.inl x :: st) (m_SH, f, g) := m_rst rfl rfl
theorem r20_136 {d : Nat} {Q : mQ} {l0 l1 l2 l3 l4 l5 l6 l7 : Option mV} {st : mS} {f : Nat → Nat → Int32} {g : Nat → Nat → Option Nat} {k : Nat} {i : Int32} (hs1 : m_kn k = 3 ∨ m_kn k = 4) (hi : ¬ (i < 0 ∨ m_ln k ≤ i.toNatClampNeg)) : m_R (m_E d) 20 m_SH.length (m_sl m_SH) Q 136 [l0, l1, l2, l3, l4, l5, l6, l7] (.inl i :: .inr (some k) :: st) (m_SH, f, g) = m_R (m_E d) 20 m_SH.length (m_sl m_SH) Q 137 [l0, l1, l2, l3, l4, l5, l6, l7] (.inr (g k i.toNatClampNeg) :: st) (m_SH, f, g) := m_rst rfl (m_xa_of hs1 hi)
theorem r20_137 {d : Nat} {Q : mQ} {l0 l1 l2 l3 l4 l5 l6 l7 : Option mV} {st : mS} {f : Nat → Nat → Int32} {g : Nat → Nat → Option Nat} {x : Option Nat}  : m_R (m_E d) 20 m_SH.length (m_sl m_SH) Q 137 [l0, l1, l2, l3, some (.inr x), l5, l6, l7] st (m_SH, f, g) = m_R (m_E d) 20 m_SH.length (m_sl m_SH) Q 139 [l0, l1, l2, l3, some (.inr x), l5, l6, l7] (.inr x :: st) (m_SH, f, g) := m_rst rfl rfl
theorem r20_139 {d : Nat} {Q : mQ} {l0 l1 l2 l3 l4 l5 l6 l7 : Option mV} {st : mS} {f : Nat → Nat → Int32} {g : Nat → Nat → Option Nat} {x : Int32}  : m_R (m_E d) 20 m_SH.length (m_sl m_SH) Q 139 [l0, l1, l2, l3, l4, l5, some (.inl x), l7] st (m_SH, f, g) = m_R (m_E d) 20 m_SH.length (m_sl m_SH) Q 141 [l0, l1, l2, l3, l4, l5, some (.inl x), l7] (.inl x :: st) (m_SH, f, g) := m_rst rfl rfl
theorem r20_141 {d : Nat} {Q : mQ} {l0 l1 l2 l3 l4 l5 l6 l7 : Option mV} {st : mS} {f : Nat → Nat → Int32} {g : Nat → Nat → Option Nat} {v0 v1 v2 : mV} {k : Nat} (hs1 : m_kn k = 0) (hs2 : m_ln k = 0) (hst : st.length ≤ 8) : m_R (m_E d) 20 m_SH.length (m_sl m_SH) Q 141 [l0, l1, l2, l3, l4, l5, l6, l7] (v2 :: v1 :: v0 :: .inr (some k) :: st) (m_SH, f, g) = m_E d 42 [.inr (some k), v0, v1, v2] (m_SH, f, g) (fun r w => m_R (m_E d) 20 m_SH.length (m_sl m_SH) Q 144 [l0, l1, l2, l3, l4, l5, l6, l7] (r.toList ++ st) w) := m_rcall (rest := st) rfl (if_pos ⟨⟨by show 3 ≤ List.length (v2 :: v1 :: v0 :: .inr (some k) :: st); simp only [List.length_cons]; omega, rfl, hst, fun _ => m_sho hs1 hs2⟩, Nat.le_refl _, Nat.le_refl _⟩)
theorem r20_144 {d : Nat} {Q : mQ} {l0 l1 l2 l3 l4 l5 l6 l7 : Option mV} {f : Nat → Nat → Int32} {g : Nat → Nat → Option Nat} {x : Int32} : m_R (m_E d) 20 m_SH.length (m_sl m_SH) Q 144 [l0, l1, l2, l3, l4, l5, l6, l7] [.inl x] (m_SH, f, g) = Q (some (.inl x)) (m_SH, f, g) := m_rret (i := .ireturn) rfl (m_st_ri.trans (m_ri1 (me := 20) (N := m_SH.length) (S := m_sl m_SH) (w := (m_SH, f, g)) rfl (m_b0 rfl)))
/-! 21: Desk_enter -/
theorem r21_0 {d : Nat} {Q : mQ} {l0 l1 l2 l3 : Option mV} {st : mS} {f : Nat → Nat → Int32} {g : Nat → Nat → Option Nat} {x : Option Nat}  : m_R (m_E d) 21 m_SH.length (m_sl m_SH) Q 0 [l0, some (.inr x), l2, l3] st (m_SH, f, g) = m_R (m_E d) 21 m_SH.length (m_sl m_SH) Q 1 [l0, some (.inr x), l2, l3] (.inr x :: st) (m_SH, f, g) := m_rst rfl rfl
theorem r21_1 {d : Nat} {Q : mQ} {l0 l1 l2 l3 : Option mV} {st : mS} {f : Nat → Nat → Int32} {g : Nat → Nat → Option Nat} {k : Nat} (hs1 : m_kn k = 0) (hs2 : m_ln k = 4) (hst : st.length ≤ 8) : m_R (m_E d) 21 m_SH.length (m_sl m_SH) Q 1 [l0, l1, l2, l3] (.inr (some k) :: st) (m_SH, f, g) = m_E d 22 [.inr (some k)] (m_SH, f, g) (fun r w => m_R (m_E d) 21 m_SH.length (m_sl m_SH) Q 4 [l0, l1, l2, l3] (r.toList ++ st) w) := m_rcall (rest := st) rfl (if_pos ⟨⟨by show 0 ≤ List.length (.inr (some k) :: st); simp only [List.length_cons]; omega, rfl, hst, fun _ => m_sho hs1 hs2⟩, Nat.le_refl _, Nat.le_refl _⟩)
theorem r21_4 {d : Nat} {Q : mQ} {l0 l1 l2 l3 : Option mV} {st : mS} {f : Nat → Nat → Int32} {g : Nat → Nat → Option Nat} {x : Option Nat}  : m_R (m_E d) 21 m_SH.length (m_sl m_SH) Q 4 [l0, l1, l2, some (.inr x)] st (m_SH, f, g) = m_R (m_E d) 21 m_SH.length (m_sl m_SH) Q 5 [l0, l1, l2, some (.inr x)] (.inr x :: st) (m_SH, f, g) := m_rst rfl rfl
theorem r21_5n {d : Nat} {Q : mQ} {l0 l1 l2 l3 : Option mV} {st : mS} {f : Nat → Nat → Int32} {g : Nat → Nat → Option Nat} : m_R (m_E d) 21 m_SH.length (m_sl m_SH) Q 5 [l0, l1, l2, l3] (.inr none :: st) (m_SH, f, g) = m_R (m_E d) 21 m_SH.length (m_sl m_SH) Q 8 [l0, l1, l2, l3] st (m_SH, f, g) := m_rst rfl rfl
theorem r21_5s {d : Nat} {Q : mQ} {l0 l1 l2 l3 : Option mV} {st : mS} {f : Nat → Nat → Int32} {g : Nat → Nat → Option Nat} {k : Nat} : m_R (m_E d) 21 m_SH.length (m_sl m_SH) Q 5 [l0, l1, l2, l3] (.inr (some k) :: st) (m_SH, f, g) = m_R (m_E d) 21 m_SH.length (m_sl m_SH) Q 17 [l0, l1, l2, l3] st (m_SH, f, g) := m_rst rfl rfl
theorem r21_8 {d : Nat} {Q : mQ} {l0 l1 l2 l3 : Option mV} {st : mS} {f : Nat → Nat → Int32} {g : Nat → Nat → Option Nat} {x : Option Nat}  : m_R (m_E d) 21 m_SH.length (m_sl m_SH) Q 8 [some (.inr x), l1, l2, l3] st (m_SH, f, g) = m_R (m_E d) 21 m_SH.length (m_sl m_SH) Q 9 [some (.inr x), l1, l2, l3] (.inr x :: st) (m_SH, f, g) := m_rst rfl rfl
theorem r21_9 {d : Nat} {Q : mQ} {l0 l1 l2 l3 : Option mV} {st : mS} {f : Nat → Nat → Int32} {g : Nat → Nat → Option Nat} {x : Option Nat}  : m_R (m_E d) 21 m_SH.length (m_sl m_SH) Q 9 [l0, some (.inr x), l2, l3] st (m_SH, f, g) = m_R (m_E d) 21 m_SH.length (m_sl m_SH) Q 10 [l0, some (.inr x), l2, l3] (.inr x :: st) (m_SH, f, g) := m_rst rfl rfl
theorem r21_10 {d : Nat} {Q : mQ} {l0 l1 l2 l3 : Option mV} {st : mS} {f : Nat → Nat → Int32} {g : Nat → Nat → Option Nat} {x : Int32}  : m_R (m_E d) 21 m_SH.length (m_sl m_SH) Q 10 [l0, l1, some (.inl x), l3] st (m_SH, f, g) = m_R (m_E d) 21 m_SH.length (m_sl m_SH) Q 11 [l0, l1, some (.inl x), l3] (.inl x :: st) (m_SH, f, g) := m_rst rfl rfl
theorem r21_11 {d : Nat} {Q : mQ} {l0 l1 l2 l3 : Option mV} {st : mS} {f : Nat → Nat → Int32} {g : Nat → Nat → Option Nat} {v0 v1 : mV} {k : Nat} (hs1 : m_kn k = 0) (hs2 : m_ln k = 0) (hst : st.length ≤ 8) : m_R (m_E d) 21 m_SH.length (m_sl m_SH) Q 11 [l0, l1, l2, l3] (v1 :: v0 :: .inr (some k) :: st) (m_SH, f, g) = m_E d 23 [.inr (some k), v0, v1] (m_SH, f, g) (fun r w => m_R (m_E d) 21 m_SH.length (m_sl m_SH) Q 14 [l0, l1, l2, l3] (r.toList ++ st) w) := m_rcall (rest := st) rfl (if_pos ⟨⟨by show 2 ≤ List.length (v1 :: v0 :: .inr (some k) :: st); simp only [List.length_cons]; omega, rfl, hst, fun _ => m_sho hs1 hs2⟩, Nat.le_refl _, Nat.le_refl _⟩)
theorem r21_14 {d : Nat} {Q : mQ} {l0 l1 l2 l3 : Option mV} {st : mS} {f : Nat → Nat → Int32} {g : Nat → Nat → Option Nat}  : m_R (m_E d) 21 m_SH.length (m_sl m_SH) Q 14 [l0, l1, l2, l3] st (m_SH, f, g) = m_R (m_E d) 21 m_SH.length (m_sl m_SH) Q 24 [l0, l1, l2, l3] st (m_SH, f, g) := m_rst rfl rfl
theorem r21_17 {d : Nat} {Q : mQ} {l0 l1 l2 l3 : Option mV} {st : mS} {f : Nat → Nat → Int32} {g : Nat → Nat → Option Nat} {x : Option Nat}  : m_R (m_E d) 21 m_SH.length (m_sl m_SH) Q 17 [some (.inr x), l1, l2, l3] st (m_SH, f, g) = m_R (m_E d) 21 m_SH.length (m_sl m_SH) Q 18 [some (.inr x), l1, l2, l3] (.inr x :: st) (m_SH, f, g) := m_rst rfl rfl
theorem r21_18 {d : Nat} {Q : mQ} {l0 l1 l2 l3 : Option mV} {st : mS} {f : Nat → Nat → Int32} {g : Nat → Nat → Option Nat} {x : Option Nat}  : m_R (m_E d) 21 m_SH.length (m_sl m_SH) Q 18 [l0, some (.inr x), l2, l3] st (m_SH, f, g) = m_R (m_E d) 21 m_SH.length (m_sl m_SH) Q 19 [l0, some (.inr x), l2, l3] (.inr x :: st) (m_SH, f, g) := m_rst rfl rfl
theorem r21_19 {d : Nat} {Q : mQ} {l0 l1 l2 l3 : Option mV} {st : mS} {f : Nat → Nat → Int32} {g : Nat → Nat → Option Nat} {x : Int32}  : m_R (m_E d) 21 m_SH.length (m_sl m_SH) Q 19 [l0, l1, some (.inl x), l3] st (m_SH, f, g) = m_R (m_E d) 21 m_SH.length (m_sl m_SH) Q 20 [l0, l1, some (.inl x), l3] (.inl x :: st) (m_SH, f, g) := m_rst rfl rfl
theorem r21_20 {d : Nat} {Q : mQ} {l0 l1 l2 l3 : Option mV} {st : mS} {f : Nat → Nat → Int32} {g : Nat → Nat → Option Nat} {x : Option Nat}  : m_R (m_E d) 21 m_SH.length (m_sl m_SH) Q 20 [l0, l1, l2, some (.inr x)] st (m_SH, f, g) = m_R (m_E d) 21 m_SH.length (m_sl m_SH) Q 21 [l0, l1, l2, some (.inr x)] (.inr x :: st) (m_SH, f, g) := m_rst rfl rfl
theorem r21_21 {d : Nat} {Q : mQ} {l0 l1 l2 l3 : Option mV} {st : mS} {f : Nat → Nat → Int32} {g : Nat → Nat → Option Nat} {v0 v1 v2 : mV} {k : Nat} (hs1 : m_kn k = 0) (hs2 : m_ln k = 0) (hst : st.length ≤ 8) : m_R (m_E d) 21 m_SH.length (m_sl m_SH) Q 21 [l0, l1, l2, l3] (v2 :: v1 :: v0 :: .inr (some k) :: st) (m_SH, f, g) = m_E d 26 [.inr (some k), v0, v1, v2] (m_SH, f, g) (fun r w => m_R (m_E d) 21 m_SH.length (m_sl m_SH) Q 24 [l0, l1, l2, l3] (r.toList ++ st) w) := m_rcall (rest := st) rfl (if_pos ⟨⟨by show 3 ≤ List.length (v2 :: v1 :: v0 :: .inr (some k) :: st); simp only [List.length_cons]; omega, rfl, hst, fun _ => m_sho hs1 hs2⟩, Nat.le_refl _, Nat.le_refl _⟩)
theorem r21_24 {d : Nat} {Q : mQ} {l0 l1 l2 l3 : Option mV} {f : Nat → Nat → Int32} {g : Nat → Nat → Option Nat} {x : Int32} : m_R (m_E d) 21 m_SH.length (m_sl m_SH) Q 24 [l0, l1, l2, l3] [.inl x] (m_SH, f, g) = Q (some (.inl x)) (m_SH, f, g) := m_rret (i := .ireturn) rfl (m_st_ri.trans (m_ri1 (me := 21) (N := m_SH.length) (S := m_sl m_SH) (w := (m_SH, f, g)) rfl (m_b0 rfl)))
/-! 22: Frame_clear -/
theorem r22_0 {d : Nat} {Q : mQ} {l0 : Option mV} {st : mS} {f : Nat → Nat → Int32} {g : Nat → Nat → Option Nat} {x : Option Nat}  : m_R (m_E d) 22 m_SH.length (m_sl m_SH) Q 0 [some (.inr x)] st (m_SH, f, g) = m_R (m_E d) 22 m_SH.length (m_sl m_SH) Q 1 [some (.inr x)] (.inr x :: st) (m_SH, f, g) := m_rst rfl rfl
theorem r22_1 {d : Nat} {Q : mQ} {l0 : Option mV} {st : mS} {f : Nat → Nat → Int32} {g : Nat → Nat → Option Nat}  : m_R (m_E d) 22 m_SH.length (m_sl m_SH) Q 1 [l0] st (m_SH, f, g) = m_R (m_E d) 22 m_SH.length (m_sl m_SH) Q 2 [l0] (.inr none :: st) (m_SH, f, g) := m_rst rfl rfl
theorem r22_2 {d : Nat} {Q : mQ} {l0 : Option mV} {st : mS} {f : Nat → Nat → Int32} {g : Nat → Nat → Option Nat} {k : Nat} {x : Option Nat} (hs1 : m_kn k = 0) (hs2 : m_ln k = 4) : m_R (m_E d) 22 m_SH.length (m_sl m_SH) Q 2 [l0] (.inr x :: .inr (some k) :: st) (m_SH, f, g) = m_R (m_E d) 22 m_SH.length (m_sl m_SH) Q 5 [l0] st (m_SH, f, m_sr g k 1 x) := m_rst rfl (if_pos ⟨m_sho hs1 hs2, rfl⟩)
theorem r22_5 {d : Nat} {Q : mQ} {l0 : Option mV} {st : mS} {f : Nat → Nat → Int32} {g : Nat → Nat → Option Nat} {x : Option Nat}  : m_R (m_E d) 22 m_SH.length (m_sl m_SH) Q 5 [some (.inr x)] st (m_SH, f, g) = m_R (m_E d) 22 m_SH.length (m_sl m_SH) Q 6 [some (.inr x)] (.inr x :: st) (m_SH, f, g) := m_rst rfl rfl
theorem r22_6 {d : Nat} {Q : mQ} {l0 : Option mV} {st : mS} {f : Nat → Nat → Int32} {g : Nat → Nat → Option Nat}  : m_R (m_E d) 22 m_SH.length (m_sl m_SH) Q 6 [l0] st (m_SH, f, g) = m_R (m_E d) 22 m_SH.length (m_sl m_SH) Q 7 [l0] (.inr none :: st) (m_SH, f, g) := m_rst rfl rfl
theorem r22_7 {d : Nat} {Q : mQ} {l0 : Option mV} {st : mS} {f : Nat → Nat → Int32} {g : Nat → Nat → Option Nat} {k : Nat} {x : Option Nat} (hs1 : m_kn k = 0) (hs2 : m_ln k = 4) : m_R (m_E d) 22 m_SH.length (m_sl m_SH) Q 7 [l0] (.inr x :: .inr (some k) :: st) (m_SH, f, g) = m_R (m_E d) 22 m_SH.length (m_sl m_SH) Q 10 [l0] st (m_SH, f, m_sr g k 2 x) := m_rst rfl (if_pos ⟨m_sho hs1 hs2, rfl⟩)
theorem r22_10 {d : Nat} {Q : mQ} {l0 : Option mV} {st : mS} {f : Nat → Nat → Int32} {g : Nat → Nat → Option Nat} {x : Option Nat}  : m_R (m_E d) 22 m_SH.length (m_sl m_SH) Q 10 [some (.inr x)] st (m_SH, f, g) = m_R (m_E d) 22 m_SH.length (m_sl m_SH) Q 11 [some (.inr x)] (.inr x :: st) (m_SH, f, g) := m_rst rfl rfl
theorem r22_11 {d : Nat} {Q : mQ} {l0 : Option mV} {st : mS} {f : Nat → Nat → Int32} {g : Nat → Nat → Option Nat}  : m_R (m_E d) 22 m_SH.length (m_sl m_SH) Q 11 [l0] st (m_SH, f, g) = m_R (m_E d) 22 m_SH.length (m_sl m_SH) Q 12 [l0] (.inl 0 :: st) (m_SH, f, g) := m_rst rfl rfl
theorem r22_12 {d : Nat} {Q : mQ} {l0 : Option mV} {st : mS} {f : Nat → Nat → Int32} {g : Nat → Nat → Option Nat} {k : Nat} {x : Int32} (hs1 : m_kn k = 0) (hs2 : m_ln k = 4) : m_R (m_E d) 22 m_SH.length (m_sl m_SH) Q 12 [l0] (.inl x :: .inr (some k) :: st) (m_SH, f, g) = m_R (m_E d) 22 m_SH.length (m_sl m_SH) Q 15 [l0] st (m_SH, m_si f k 3 x, g) := m_rst rfl (if_pos ⟨m_sho hs1 hs2, Or.inl rfl⟩)
theorem r22_15 {d : Nat} {Q : mQ} {l0 : Option mV} {st : mS} {f : Nat → Nat → Int32} {g : Nat → Nat → Option Nat} {x : Option Nat}  : m_R (m_E d) 22 m_SH.length (m_sl m_SH) Q 15 [some (.inr x)] st (m_SH, f, g) = m_R (m_E d) 22 m_SH.length (m_sl m_SH) Q 16 [some (.inr x)] (.inr x :: st) (m_SH, f, g) := m_rst rfl rfl
theorem r22_16 {d : Nat} {Q : mQ} {l0 : Option mV} {st : mS} {f : Nat → Nat → Int32} {g : Nat → Nat → Option Nat}  : m_R (m_E d) 22 m_SH.length (m_sl m_SH) Q 16 [l0] st (m_SH, f, g) = m_R (m_E d) 22 m_SH.length (m_sl m_SH) Q 17 [l0] (.inl 0 :: st) (m_SH, f, g) := m_rst rfl rfl
theorem r22_17 {d : Nat} {Q : mQ} {l0 : Option mV} {st : mS} {f : Nat → Nat → Int32} {g : Nat → Nat → Option Nat} {k : Nat} {x : Int32} (hs1 : m_kn k = 0) (hs2 : m_ln k = 4) (hz : x = 0 ∨ x = 1) : m_R (m_E d) 22 m_SH.length (m_sl m_SH) Q 17 [l0] (.inl x :: .inr (some k) :: st) (m_SH, f, g) = m_R (m_E d) 22 m_SH.length (m_sl m_SH) Q 20 [l0] st (m_SH, m_si f k 4 x, g) := m_rst rfl (if_pos ⟨m_sho hs1 hs2, Or.inr ⟨rfl, hz⟩⟩)
theorem r22_20 {d : Nat} {Q : mQ} {l0 : Option mV} {f : Nat → Nat → Int32} {g : Nat → Nat → Option Nat} : m_R (m_E d) 22 m_SH.length (m_sl m_SH) Q 20 [l0] [] (m_SH, f, g) = Q none (m_SH, f, g) := m_rret (i := .return_) rfl (m_st_rv.trans (m_rv0 (me := 22) (N := m_SH.length) (S := m_sl m_SH) (w := (m_SH, f, g)) rfl (m_b0 rfl)))
/-! 23: Desk_enterAlone -/
theorem r23_0 {d : Nat} {Q : mQ} {l0 l1 l2 : Option mV} {st : mS} {f : Nat → Nat → Int32} {g : Nat → Nat → Option Nat} {x : Int32}  : m_R (m_E d) 23 m_SH.length (m_sl m_SH) Q 0 [l0, l1, some (.inl x)] st (m_SH, f, g) = m_R (m_E d) 23 m_SH.length (m_sl m_SH) Q 1 [l0, l1, some (.inl x)] (.inl x :: st) (m_SH, f, g) := m_rst rfl rfl
theorem r23_1 {d : Nat} {Q : mQ} {l0 l1 l2 : Option mV} {st : mS} {f : Nat → Nat → Int32} {g : Nat → Nat → Option Nat} {x : Int32} : m_R (m_E d) 23 m_SH.length (m_sl m_SH) Q 1 [l0, l1, l2] (.inl x :: st) (m_SH, f, g) = (if x = 0 then m_R (m_E d) 23 m_SH.length (m_sl m_SH) Q 40 [l0, l1, l2] st (m_SH, f, g) else if x = 1 then m_R (m_E d) 23 m_SH.length (m_sl m_SH) Q 40 [l0, l1, l2] st (m_SH, f, g) else if x = 2 then m_R (m_E d) 23 m_SH.length (m_sl m_SH) Q 40 [l0, l1, l2] st (m_SH, f, g) else if x = 3 then m_R (m_E d) 23 m_SH.length (m_sl m_SH) Q 49 [l0, l1, l2] st (m_SH, f, g) else if x = 4 then m_R (m_E d) 23 m_SH.length (m_sl m_SH) Q 49 [l0, l1, l2] st (m_SH, f, g) else if x = 5 then m_R (m_E d) 23 m_SH.length (m_sl m_SH) Q 47 [l0, l1, l2] st (m_SH, f, g) else m_R (m_E d) 23 m_SH.length (m_sl m_SH) Q 49 [l0, l1, l2] st (m_SH, f, g)) := by
  by_cases h0 : x = 0
  · subst h0
    rw [if_pos rfl]
    exact m_rst rfl rfl
  rw [if_neg h0]
  by_cases h1 : x = 1
  · subst h1
    rw [if_pos rfl]
    exact m_rst rfl rfl
  rw [if_neg h1]
  by_cases h2 : x = 2
  · subst h2
    rw [if_pos rfl]
    exact m_rst rfl rfl
  rw [if_neg h2]
  by_cases h3 : x = 3
  · subst h3
    rw [if_pos rfl]
    exact m_rst rfl rfl
  rw [if_neg h3]
  by_cases h4 : x = 4
  · subst h4
    rw [if_pos rfl]
    exact m_rst rfl rfl
  rw [if_neg h4]
  by_cases h5 : x = 5
  · subst h5
    rw [if_pos rfl]
    exact m_rst rfl rfl
  rw [if_neg h5]
  have q0 : x.toInt ≠ 0 := fun h => h0 (Int32.toInt_inj.mp h)
  have q1 : x.toInt ≠ 1 := fun h => h1 (Int32.toInt_inj.mp h)
  have q2 : x.toInt ≠ 2 := fun h => h2 (Int32.toInt_inj.mp h)
  have q3 : x.toInt ≠ 3 := fun h => h3 (Int32.toInt_inj.mp h)
  have q4 : x.toInt ≠ 4 := fun h => h4 (Int32.toInt_inj.mp h)
  have q5 : x.toInt ≠ 5 := fun h => h5 (Int32.toInt_inj.mp h)
  exact m_rst rfl (by show (if x.toInt < 0 ∨ 5 < x.toInt then _ else _) = _; rw [if_pos (by omega)]; rfl)
theorem r23_40 {d : Nat} {Q : mQ} {l0 l1 l2 : Option mV} {st : mS} {f : Nat → Nat → Int32} {g : Nat → Nat → Option Nat} {x : Option Nat}  : m_R (m_E d) 23 m_SH.length (m_sl m_SH) Q 40 [some (.inr x), l1, l2] st (m_SH, f, g) = m_R (m_E d) 23 m_SH.length (m_sl m_SH) Q 41 [some (.inr x), l1, l2] (.inr x :: st) (m_SH, f, g) := m_rst rfl rfl
theorem r23_41 {d : Nat} {Q : mQ} {l0 l1 l2 : Option mV} {st : mS} {f : Nat → Nat → Int32} {g : Nat → Nat → Option Nat} {x : Option Nat}  : m_R (m_E d) 23 m_SH.length (m_sl m_SH) Q 41 [l0, some (.inr x), l2] st (m_SH, f, g) = m_R (m_E d) 23 m_SH.length (m_sl m_SH) Q 42 [l0, some (.inr x), l2] (.inr x :: st) (m_SH, f, g) := m_rst rfl rfl
theorem r23_42 {d : Nat} {Q : mQ} {l0 l1 l2 : Option mV} {st : mS} {f : Nat → Nat → Int32} {g : Nat → Nat → Option Nat} {v0 : mV} {k : Nat} (hs1 : m_kn k = 0) (hs2 : m_ln k = 0) (hst : st.length ≤ 8) : m_R (m_E d) 23 m_SH.length (m_sl m_SH) Q 42 [l0, l1, l2] (v0 :: .inr (some k) :: st) (m_SH, f, g) = m_E d 24 [.inr (some k), v0] (m_SH, f, g) (fun r w => m_R (m_E d) 23 m_SH.length (m_sl m_SH) Q 45 [l0, l1, l2] (r.toList ++ st) w) := m_rcall (rest := st) rfl (if_pos ⟨⟨by show 1 ≤ List.length (v0 :: .inr (some k) :: st); simp only [List.length_cons]; omega, rfl, hst, fun _ => m_sho hs1 hs2⟩, Nat.le_refl _, Nat.le_refl _⟩)
theorem r23_45 {d : Nat} {Q : mQ} {l0 l1 l2 : Option mV} {st : mS} {f : Nat → Nat → Int32} {g : Nat → Nat → Option Nat}  : m_R (m_E d) 23 m_SH.length (m_sl m_SH) Q 45 [l0, l1, l2] st (m_SH, f, g) = m_R (m_E d) 23 m_SH.length (m_sl m_SH) Q 46 [l0, l1, l2] (.inl (-1) :: st) (m_SH, f, g) := m_rst rfl rfl
theorem r23_46 {d : Nat} {Q : mQ} {l0 l1 l2 : Option mV} {f : Nat → Nat → Int32} {g : Nat → Nat → Option Nat} {x : Int32} : m_R (m_E d) 23 m_SH.length (m_sl m_SH) Q 46 [l0, l1, l2] [.inl x] (m_SH, f, g) = Q (some (.inl x)) (m_SH, f, g) := m_rret (i := .ireturn) rfl (m_st_ri.trans (m_ri1 (me := 23) (N := m_SH.length) (S := m_sl m_SH) (w := (m_SH, f, g)) rfl (m_b0 rfl)))
theorem r23_47 {d : Nat} {Q : mQ} {l0 l1 l2 : Option mV} {st : mS} {f : Nat → Nat → Int32} {g : Nat → Nat → Option Nat}  : m_R (m_E d) 23 m_SH.length (m_sl m_SH) Q 47 [l0, l1, l2] st (m_SH, f, g) = m_R (m_E d) 23 m_SH.length (m_sl m_SH) Q 48 [l0, l1, l2] (.inl 4 :: st) (m_SH, f, g) := m_rst rfl rfl
theorem r23_48 {d : Nat} {Q : mQ} {l0 l1 l2 : Option mV} {f : Nat → Nat → Int32} {g : Nat → Nat → Option Nat} {x : Int32} : m_R (m_E d) 23 m_SH.length (m_sl m_SH) Q 48 [l0, l1, l2] [.inl x] (m_SH, f, g) = Q (some (.inl x)) (m_SH, f, g) := m_rret (i := .ireturn) rfl (m_st_ri.trans (m_ri1 (me := 23) (N := m_SH.length) (S := m_sl m_SH) (w := (m_SH, f, g)) rfl (m_b0 rfl)))
theorem r23_49 {d : Nat} {Q : mQ} {l0 l1 l2 : Option mV} {st : mS} {f : Nat → Nat → Int32} {g : Nat → Nat → Option Nat}  : m_R (m_E d) 23 m_SH.length (m_sl m_SH) Q 49 [l0, l1, l2] st (m_SH, f, g) = m_R (m_E d) 23 m_SH.length (m_sl m_SH) Q 50 [l0, l1, l2] (.inl (-1) :: st) (m_SH, f, g) := m_rst rfl rfl
theorem r23_50 {d : Nat} {Q : mQ} {l0 l1 l2 : Option mV} {f : Nat → Nat → Int32} {g : Nat → Nat → Option Nat} {x : Int32} : m_R (m_E d) 23 m_SH.length (m_sl m_SH) Q 50 [l0, l1, l2] [.inl x] (m_SH, f, g) = Q (some (.inl x)) (m_SH, f, g) := m_rret (i := .ireturn) rfl (m_st_ri.trans (m_ri1 (me := 23) (N := m_SH.length) (S := m_sl m_SH) (w := (m_SH, f, g)) rfl (m_b0 rfl)))
/-! 24: Desk_begin -/
theorem r24_0 {d : Nat} {Q : mQ} {l0 l1 : Option mV} {st : mS} {f : Nat → Nat → Int32} {g : Nat → Nat → Option Nat} {x : Option Nat}  : m_R (m_E d) 24 m_SH.length (m_sl m_SH) Q 0 [l0, some (.inr x)] st (m_SH, f, g) = m_R (m_E d) 24 m_SH.length (m_sl m_SH) Q 1 [l0, some (.inr x)] (.inr x :: st) (m_SH, f, g) := m_rst rfl rfl
theorem r24_1 {d : Nat} {Q : mQ} {l0 l1 : Option mV} {st : mS} {f : Nat → Nat → Int32} {g : Nat → Nat → Option Nat} {k : Nat} (hs1 : m_kn k = 0) (hs2 : m_ln k = 4) : m_R (m_E d) 24 m_SH.length (m_sl m_SH) Q 1 [l0, l1] (.inr (some k) :: st) (m_SH, f, g) = m_R (m_E d) 24 m_SH.length (m_sl m_SH) Q 4 [l0, l1] (.inr (g k 0) :: st) (m_SH, f, g) := m_rst rfl (if_pos (m_sho hs1 hs2))
theorem r24_4 {d : Nat} {Q : mQ} {l0 l1 : Option mV} {st : mS} {f : Nat → Nat → Int32} {g : Nat → Nat → Option Nat} {k : Nat} (hs1 : m_kn k = 0) (hs2 : m_ln k = 3) (hst : st.length ≤ 8) : m_R (m_E d) 24 m_SH.length (m_sl m_SH) Q 4 [l0, l1] (.inr (some k) :: st) (m_SH, f, g) = m_E d 25 [.inr (some k)] (m_SH, f, g) (fun r w => m_R (m_E d) 24 m_SH.length (m_sl m_SH) Q 7 [l0, l1] (r.toList ++ st) w) := m_rcall (rest := st) rfl (if_pos ⟨⟨by show 0 ≤ List.length (.inr (some k) :: st); simp only [List.length_cons]; omega, rfl, hst, fun _ => m_sho hs1 hs2⟩, Nat.le_refl _, Nat.le_refl _⟩)
theorem r24_7 {d : Nat} {Q : mQ} {l0 l1 : Option mV} {st : mS} {f : Nat → Nat → Int32} {g : Nat → Nat → Option Nat} {x : Option Nat}  : m_R (m_E d) 24 m_SH.length (m_sl m_SH) Q 7 [l0, some (.inr x)] st (m_SH, f, g) = m_R (m_E d) 24 m_SH.length (m_sl m_SH) Q 8 [l0, some (.inr x)] (.inr x :: st) (m_SH, f, g) := m_rst rfl rfl
theorem r24_8 {d : Nat} {Q : mQ} {l0 l1 : Option mV} {st : mS} {f : Nat → Nat → Int32} {g : Nat → Nat → Option Nat}  : m_R (m_E d) 24 m_SH.length (m_sl m_SH) Q 8 [l0, l1] st (m_SH, f, g) = m_R (m_E d) 24 m_SH.length (m_sl m_SH) Q 9 [l0, l1] (.inl 3 :: st) (m_SH, f, g) := m_rst rfl rfl
theorem r24_9 {d : Nat} {Q : mQ} {l0 l1 : Option mV} {st : mS} {f : Nat → Nat → Int32} {g : Nat → Nat → Option Nat} {k : Nat} {x : Int32} (hs1 : m_kn k = 0) (hs2 : m_ln k = 4) : m_R (m_E d) 24 m_SH.length (m_sl m_SH) Q 9 [l0, l1] (.inl x :: .inr (some k) :: st) (m_SH, f, g) = m_R (m_E d) 24 m_SH.length (m_sl m_SH) Q 12 [l0, l1] st (m_SH, m_si f k 3 x, g) := m_rst rfl (if_pos ⟨m_sho hs1 hs2, Or.inl rfl⟩)
theorem r24_12 {d : Nat} {Q : mQ} {l0 l1 : Option mV} {st : mS} {f : Nat → Nat → Int32} {g : Nat → Nat → Option Nat} {x : Option Nat}  : m_R (m_E d) 24 m_SH.length (m_sl m_SH) Q 12 [l0, some (.inr x)] st (m_SH, f, g) = m_R (m_E d) 24 m_SH.length (m_sl m_SH) Q 13 [l0, some (.inr x)] (.inr x :: st) (m_SH, f, g) := m_rst rfl rfl
theorem r24_13 {d : Nat} {Q : mQ} {l0 l1 : Option mV} {st : mS} {f : Nat → Nat → Int32} {g : Nat → Nat → Option Nat} {x : Option Nat}  : m_R (m_E d) 24 m_SH.length (m_sl m_SH) Q 13 [l0, some (.inr x)] st (m_SH, f, g) = m_R (m_E d) 24 m_SH.length (m_sl m_SH) Q 14 [l0, some (.inr x)] (.inr x :: st) (m_SH, f, g) := m_rst rfl rfl
theorem r24_14 {d : Nat} {Q : mQ} {l0 l1 : Option mV} {st : mS} {f : Nat → Nat → Int32} {g : Nat → Nat → Option Nat} {k : Nat} (hs1 : m_kn k = 0) (hs2 : m_ln k = 4) : m_R (m_E d) 24 m_SH.length (m_sl m_SH) Q 14 [l0, l1] (.inr (some k) :: st) (m_SH, f, g) = m_R (m_E d) 24 m_SH.length (m_sl m_SH) Q 17 [l0, l1] (.inr (g k 0) :: st) (m_SH, f, g) := m_rst rfl (if_pos (m_sho hs1 hs2))
theorem r24_17 {d : Nat} {Q : mQ} {l0 l1 : Option mV} {st : mS} {f : Nat → Nat → Int32} {g : Nat → Nat → Option Nat} {k : Nat} {x : Option Nat} (hs1 : m_kn k = 0) (hs2 : m_ln k = 4) : m_R (m_E d) 24 m_SH.length (m_sl m_SH) Q 17 [l0, l1] (.inr x :: .inr (some k) :: st) (m_SH, f, g) = m_R (m_E d) 24 m_SH.length (m_sl m_SH) Q 20 [l0, l1] st (m_SH, f, m_sr g k 1 x) := m_rst rfl (if_pos ⟨m_sho hs1 hs2, rfl⟩)
theorem r24_20 {d : Nat} {Q : mQ} {l0 l1 : Option mV} {st : mS} {f : Nat → Nat → Int32} {g : Nat → Nat → Option Nat} {x : Option Nat}  : m_R (m_E d) 24 m_SH.length (m_sl m_SH) Q 20 [some (.inr x), l1] st (m_SH, f, g) = m_R (m_E d) 24 m_SH.length (m_sl m_SH) Q 21 [some (.inr x), l1] (.inr x :: st) (m_SH, f, g) := m_rst rfl rfl
theorem r24_21 {d : Nat} {Q : mQ} {l0 l1 : Option mV} {st : mS} {f : Nat → Nat → Int32} {g : Nat → Nat → Option Nat} {k : Nat} (hs1 : m_kn k = 0) (hs2 : m_ln k = 0) : m_R (m_E d) 24 m_SH.length (m_sl m_SH) Q 21 [l0, l1] (.inr (some k) :: st) (m_SH, f, g) = m_R (m_E d) 24 m_SH.length (m_sl m_SH) Q 24 [l0, l1] (.inr (g k 6) :: st) (m_SH, f, g) := m_rst rfl (if_pos (m_sho hs1 hs2))
theorem r24_24 {d : Nat} {Q : mQ} {l0 l1 : Option mV} {st : mS} {f : Nat → Nat → Int32} {g : Nat → Nat → Option Nat}  : m_R (m_E d) 24 m_SH.length (m_sl m_SH) Q 24 [l0, l1] st (m_SH, f, g) = m_R (m_E d) 24 m_SH.length (m_sl m_SH) Q 25 [l0, l1] (.inl 0 :: st) (m_SH, f, g) := m_rst rfl rfl
theorem r24_25 {d : Nat} {Q : mQ} {l0 l1 : Option mV} {st : mS} {f : Nat → Nat → Int32} {g : Nat → Nat → Option Nat} {v u : mV}  : m_R (m_E d) 24 m_SH.length (m_sl m_SH) Q 25 [l0, l1] (v :: u :: st) (m_SH, f, g) = m_R (m_E d) 24 m_SH.length (m_sl m_SH) Q 26 [l0, l1] (v :: u :: v :: u :: st) (m_SH, f, g) := m_rst rfl rfl
theorem r24_26 {d : Nat} {Q : mQ} {l0 l1 : Option mV} {st : mS} {f : Nat → Nat → Int32} {g : Nat → Nat → Option Nat} {k : Nat} {i : Int32} (hs1 : m_kn k = 1) (hi : ¬ (i < 0 ∨ m_ln k ≤ i.toNatClampNeg)) : m_R (m_E d) 24 m_SH.length (m_sl m_SH) Q 26 [l0, l1] (.inl i :: .inr (some k) :: st) (m_SH, f, g) = m_R (m_E d) 24 m_SH.length (m_sl m_SH) Q 27 [l0, l1] (.inl (f k i.toNatClampNeg) :: st) (m_SH, f, g) := m_rst rfl (m_xi_of hs1 hi)
theorem r24_27 {d : Nat} {Q : mQ} {l0 l1 : Option mV} {st : mS} {f : Nat → Nat → Int32} {g : Nat → Nat → Option Nat}  : m_R (m_E d) 24 m_SH.length (m_sl m_SH) Q 27 [l0, l1] st (m_SH, f, g) = m_R (m_E d) 24 m_SH.length (m_sl m_SH) Q 28 [l0, l1] (.inl 1 :: st) (m_SH, f, g) := m_rst rfl rfl
theorem r24_28 {d : Nat} {Q : mQ} {l0 l1 : Option mV} {st : mS} {f : Nat → Nat → Int32} {g : Nat → Nat → Option Nat} {x y : Int32}  : m_R (m_E d) 24 m_SH.length (m_sl m_SH) Q 28 [l0, l1] (.inl y :: .inl x :: st) (m_SH, f, g) = m_R (m_E d) 24 m_SH.length (m_sl m_SH) Q 29 [l0, l1] (.inl (x + y) :: st) (m_SH, f, g) := m_rst rfl rfl
theorem r24_29 {d : Nat} {Q : mQ} {l0 l1 : Option mV} {st : mS} {f : Nat → Nat → Int32} {g : Nat → Nat → Option Nat} {k : Nat} {i x : Int32} (hs1 : m_kn k = 1) (hi : ¬ (i < 0 ∨ m_ln k ≤ i.toNatClampNeg)) : m_R (m_E d) 24 m_SH.length (m_sl m_SH) Q 29 [l0, l1] (.inl x :: .inl i :: .inr (some k) :: st) (m_SH, f, g) = m_R (m_E d) 24 m_SH.length (m_sl m_SH) Q 30 [l0, l1] st (m_SH, m_si f k i.toNatClampNeg x, g) := m_rst rfl (m_yi_of hs1 hi)
theorem r24_30 {d : Nat} {Q : mQ} {l0 l1 : Option mV} {f : Nat → Nat → Int32} {g : Nat → Nat → Option Nat} : m_R (m_E d) 24 m_SH.length (m_sl m_SH) Q 30 [l0, l1] [] (m_SH, f, g) = Q none (m_SH, f, g) := m_rret (i := .return_) rfl (m_st_rv.trans (m_rv0 (me := 24) (N := m_SH.length) (S := m_sl m_SH) (w := (m_SH, f, g)) rfl (m_b0 rfl)))
/-! 25: Tx_clear -/
theorem r25_0 {d : Nat} {Q : mQ} {l0 l1 : Option mV} {st : mS} {f : Nat → Nat → Int32} {g : Nat → Nat → Option Nat}  : m_R (m_E d) 25 m_SH.length (m_sl m_SH) Q 0 [l0, l1] st (m_SH, f, g) = m_R (m_E d) 25 m_SH.length (m_sl m_SH) Q 1 [l0, l1] (.inl 0 :: st) (m_SH, f, g) := m_rst rfl rfl
theorem r25_1 {d : Nat} {Q : mQ} {l0 l1 : Option mV} {st : mS} {f : Nat → Nat → Int32} {g : Nat → Nat → Option Nat} {x : Int32}  : m_R (m_E d) 25 m_SH.length (m_sl m_SH) Q 1 [l0, l1] (.inl x :: st) (m_SH, f, g) = m_R (m_E d) 25 m_SH.length (m_sl m_SH) Q 2 [l0, some (.inl x)] st (m_SH, f, g) := m_rst rfl rfl
theorem r25_2 {d : Nat} {Q : mQ} {l0 l1 : Option mV} {st : mS} {f : Nat → Nat → Int32} {g : Nat → Nat → Option Nat} {x : Int32}  : m_R (m_E d) 25 m_SH.length (m_sl m_SH) Q 2 [l0, some (.inl x)] st (m_SH, f, g) = m_R (m_E d) 25 m_SH.length (m_sl m_SH) Q 3 [l0, some (.inl x)] (.inl x :: st) (m_SH, f, g) := m_rst rfl rfl
theorem r25_3 {d : Nat} {Q : mQ} {l0 l1 : Option mV} {st : mS} {f : Nat → Nat → Int32} {g : Nat → Nat → Option Nat}  : m_R (m_E d) 25 m_SH.length (m_sl m_SH) Q 3 [l0, l1] st (m_SH, f, g) = m_R (m_E d) 25 m_SH.length (m_sl m_SH) Q 4 [l0, l1] (.inl 4 :: st) (m_SH, f, g) := m_rst rfl rfl
theorem r25_4 {d : Nat} {Q : mQ} {l0 l1 : Option mV} {st : mS} {f : Nat → Nat → Int32} {g : Nat → Nat → Option Nat} {x y : Int32} : m_R (m_E d) 25 m_SH.length (m_sl m_SH) Q 4 [l0, l1] (.inl y :: .inl x :: st) (m_SH, f, g) = (if y ≤ x then m_R (m_E d) 25 m_SH.length (m_sl m_SH) Q 34 [l0, l1] st (m_SH, f, g) else m_R (m_E d) 25 m_SH.length (m_sl m_SH) Q 7 [l0, l1] st (m_SH, f, g)) := m_rif rfl (o1 := some (.inl (34, [l0, l1], st, (m_SH, f, g)))) (o2 := some (.inl (7, [l0, l1], st, (m_SH, f, g)))) rfl
theorem r25_7 {d : Nat} {Q : mQ} {l0 l1 : Option mV} {st : mS} {f : Nat → Nat → Int32} {g : Nat → Nat → Option Nat} {x : Option Nat}  : m_R (m_E d) 25 m_SH.length (m_sl m_SH) Q 7 [some (.inr x), l1] st (m_SH, f, g) = m_R (m_E d) 25 m_SH.length (m_sl m_SH) Q 8 [some (.inr x), l1] (.inr x :: st) (m_SH, f, g) := m_rst rfl rfl
theorem r25_8 {d : Nat} {Q : mQ} {l0 l1 : Option mV} {st : mS} {f : Nat → Nat → Int32} {g : Nat → Nat → Option Nat} {k : Nat} (hs1 : m_kn k = 0) (hs2 : m_ln k = 3) : m_R (m_E d) 25 m_SH.length (m_sl m_SH) Q 8 [l0, l1] (.inr (some k) :: st) (m_SH, f, g) = m_R (m_E d) 25 m_SH.length (m_sl m_SH) Q 11 [l0, l1] (.inr (g k 1) :: st) (m_SH, f, g) := m_rst rfl (if_pos (m_sho hs1 hs2))
theorem r25_11 {d : Nat} {Q : mQ} {l0 l1 : Option mV} {st : mS} {f : Nat → Nat → Int32} {g : Nat → Nat → Option Nat} {x : Int32}  : m_R (m_E d) 25 m_SH.length (m_sl m_SH) Q 11 [l0, some (.inl x)] st (m_SH, f, g) = m_R (m_E d) 25 m_SH.length (m_sl m_SH) Q 12 [l0, some (.inl x)] (.inl x :: st) (m_SH, f, g) := m_rst rfl rfl
theorem r25_12 {d : Nat} {Q : mQ} {l0 l1 : Option mV} {st : mS} {f : Nat → Nat → Int32} {g : Nat → Nat → Option Nat}  : m_R (m_E d) 25 m_SH.length (m_sl m_SH) Q 12 [l0, l1] st (m_SH, f, g) = m_R (m_E d) 25 m_SH.length (m_sl m_SH) Q 13 [l0, l1] (.inl 0 :: st) (m_SH, f, g) := m_rst rfl rfl
theorem r25_13 {d : Nat} {Q : mQ} {l0 l1 : Option mV} {st : mS} {f : Nat → Nat → Int32} {g : Nat → Nat → Option Nat} {k : Nat} {i x : Int32} (hs1 : m_kn k = 2) (hz : x = 0 ∨ x = 1) (hi : ¬ (i < 0 ∨ m_ln k ≤ i.toNatClampNeg)) : m_R (m_E d) 25 m_SH.length (m_sl m_SH) Q 13 [l0, l1] (.inl x :: .inl i :: .inr (some k) :: st) (m_SH, f, g) = m_R (m_E d) 25 m_SH.length (m_sl m_SH) Q 14 [l0, l1] st (m_SH, m_si f k i.toNatClampNeg x, g) := m_rst rfl (m_yb_of hs1 hz hi)
theorem r25_14 {d : Nat} {Q : mQ} {l0 l1 : Option mV} {st : mS} {f : Nat → Nat → Int32} {g : Nat → Nat → Option Nat} {x : Option Nat}  : m_R (m_E d) 25 m_SH.length (m_sl m_SH) Q 14 [some (.inr x), l1] st (m_SH, f, g) = m_R (m_E d) 25 m_SH.length (m_sl m_SH) Q 15 [some (.inr x), l1] (.inr x :: st) (m_SH, f, g) := m_rst rfl rfl
theorem r25_15 {d : Nat} {Q : mQ} {l0 l1 : Option mV} {st : mS} {f : Nat → Nat → Int32} {g : Nat → Nat → Option Nat} {k : Nat} (hs1 : m_kn k = 0) (hs2 : m_ln k = 3) : m_R (m_E d) 25 m_SH.length (m_sl m_SH) Q 15 [l0, l1] (.inr (some k) :: st) (m_SH, f, g) = m_R (m_E d) 25 m_SH.length (m_sl m_SH) Q 18 [l0, l1] (.inr (g k 2) :: st) (m_SH, f, g) := m_rst rfl (if_pos (m_sho hs1 hs2))
theorem r25_18 {d : Nat} {Q : mQ} {l0 l1 : Option mV} {st : mS} {f : Nat → Nat → Int32} {g : Nat → Nat → Option Nat} {x : Int32}  : m_R (m_E d) 25 m_SH.length (m_sl m_SH) Q 18 [l0, some (.inl x)] st (m_SH, f, g) = m_R (m_E d) 25 m_SH.length (m_sl m_SH) Q 19 [l0, some (.inl x)] (.inl x :: st) (m_SH, f, g) := m_rst rfl rfl
theorem r25_19 {d : Nat} {Q : mQ} {l0 l1 : Option mV} {st : mS} {f : Nat → Nat → Int32} {g : Nat → Nat → Option Nat}  : m_R (m_E d) 25 m_SH.length (m_sl m_SH) Q 19 [l0, l1] st (m_SH, f, g) = m_R (m_E d) 25 m_SH.length (m_sl m_SH) Q 20 [l0, l1] (.inl 0 :: st) (m_SH, f, g) := m_rst rfl rfl
theorem r25_20 {d : Nat} {Q : mQ} {l0 l1 : Option mV} {st : mS} {f : Nat → Nat → Int32} {g : Nat → Nat → Option Nat} {k : Nat} {i x : Int32} (hs1 : m_kn k = 2) (hz : x = 0 ∨ x = 1) (hi : ¬ (i < 0 ∨ m_ln k ≤ i.toNatClampNeg)) : m_R (m_E d) 25 m_SH.length (m_sl m_SH) Q 20 [l0, l1] (.inl x :: .inl i :: .inr (some k) :: st) (m_SH, f, g) = m_R (m_E d) 25 m_SH.length (m_sl m_SH) Q 21 [l0, l1] st (m_SH, m_si f k i.toNatClampNeg x, g) := m_rst rfl (m_yb_of hs1 hz hi)
theorem r25_21 {d : Nat} {Q : mQ} {l0 l1 : Option mV} {st : mS} {f : Nat → Nat → Int32} {g : Nat → Nat → Option Nat} {x : Option Nat}  : m_R (m_E d) 25 m_SH.length (m_sl m_SH) Q 21 [some (.inr x), l1] st (m_SH, f, g) = m_R (m_E d) 25 m_SH.length (m_sl m_SH) Q 22 [some (.inr x), l1] (.inr x :: st) (m_SH, f, g) := m_rst rfl rfl
theorem r25_22 {d : Nat} {Q : mQ} {l0 l1 : Option mV} {st : mS} {f : Nat → Nat → Int32} {g : Nat → Nat → Option Nat} {k : Nat} (hs1 : m_kn k = 0) (hs2 : m_ln k = 3) : m_R (m_E d) 25 m_SH.length (m_sl m_SH) Q 22 [l0, l1] (.inr (some k) :: st) (m_SH, f, g) = m_R (m_E d) 25 m_SH.length (m_sl m_SH) Q 25 [l0, l1] (.inr (g k 3) :: st) (m_SH, f, g) := m_rst rfl (if_pos (m_sho hs1 hs2))
theorem r25_25 {d : Nat} {Q : mQ} {l0 l1 : Option mV} {st : mS} {f : Nat → Nat → Int32} {g : Nat → Nat → Option Nat} {x : Int32}  : m_R (m_E d) 25 m_SH.length (m_sl m_SH) Q 25 [l0, some (.inl x)] st (m_SH, f, g) = m_R (m_E d) 25 m_SH.length (m_sl m_SH) Q 26 [l0, some (.inl x)] (.inl x :: st) (m_SH, f, g) := m_rst rfl rfl
theorem r25_26 {d : Nat} {Q : mQ} {l0 l1 : Option mV} {st : mS} {f : Nat → Nat → Int32} {g : Nat → Nat → Option Nat}  : m_R (m_E d) 25 m_SH.length (m_sl m_SH) Q 26 [l0, l1] st (m_SH, f, g) = m_R (m_E d) 25 m_SH.length (m_sl m_SH) Q 27 [l0, l1] (.inl 0 :: st) (m_SH, f, g) := m_rst rfl rfl
theorem r25_27 {d : Nat} {Q : mQ} {l0 l1 : Option mV} {st : mS} {f : Nat → Nat → Int32} {g : Nat → Nat → Option Nat} {k : Nat} {i x : Int32} (hs1 : m_kn k = 2) (hz : x = 0 ∨ x = 1) (hi : ¬ (i < 0 ∨ m_ln k ≤ i.toNatClampNeg)) : m_R (m_E d) 25 m_SH.length (m_sl m_SH) Q 27 [l0, l1] (.inl x :: .inl i :: .inr (some k) :: st) (m_SH, f, g) = m_R (m_E d) 25 m_SH.length (m_sl m_SH) Q 28 [l0, l1] st (m_SH, m_si f k i.toNatClampNeg x, g) := m_rst rfl (m_yb_of hs1 hz hi)
theorem r25_28 {d : Nat} {Q : mQ} {l0 l1 : Option mV} {st : mS} {f : Nat → Nat → Int32} {g : Nat → Nat → Option Nat} {x : Int32}  : m_R (m_E d) 25 m_SH.length (m_sl m_SH) Q 28 [l0, some (.inl x)] st (m_SH, f, g) = m_R (m_E d) 25 m_SH.length (m_sl m_SH) Q 31 [l0, some (.inl (x + 1))] st (m_SH, f, g) := m_rst rfl rfl
theorem r25_31 {d : Nat} {Q : mQ} {l0 l1 : Option mV} {st : mS} {f : Nat → Nat → Int32} {g : Nat → Nat → Option Nat}  : m_R (m_E d) 25 m_SH.length (m_sl m_SH) Q 31 [l0, l1] st (m_SH, f, g) = m_R (m_E d) 25 m_SH.length (m_sl m_SH) Q 2 [l0, l1] st (m_SH, f, g) := m_rst rfl rfl
theorem r25_34 {d : Nat} {Q : mQ} {l0 l1 : Option mV} {st : mS} {f : Nat → Nat → Int32} {g : Nat → Nat → Option Nat} {x : Option Nat}  : m_R (m_E d) 25 m_SH.length (m_sl m_SH) Q 34 [some (.inr x), l1] st (m_SH, f, g) = m_R (m_E d) 25 m_SH.length (m_sl m_SH) Q 35 [some (.inr x), l1] (.inr x :: st) (m_SH, f, g) := m_rst rfl rfl
theorem r25_35 {d : Nat} {Q : mQ} {l0 l1 : Option mV} {st : mS} {f : Nat → Nat → Int32} {g : Nat → Nat → Option Nat}  : m_R (m_E d) 25 m_SH.length (m_sl m_SH) Q 35 [l0, l1] st (m_SH, f, g) = m_R (m_E d) 25 m_SH.length (m_sl m_SH) Q 36 [l0, l1] (.inl 0 :: st) (m_SH, f, g) := m_rst rfl rfl
theorem r25_36 {d : Nat} {Q : mQ} {l0 l1 : Option mV} {st : mS} {f : Nat → Nat → Int32} {g : Nat → Nat → Option Nat} {k : Nat} {x : Int32} (hs1 : m_kn k = 0) (hs2 : m_ln k = 3) : m_R (m_E d) 25 m_SH.length (m_sl m_SH) Q 36 [l0, l1] (.inl x :: .inr (some k) :: st) (m_SH, f, g) = m_R (m_E d) 25 m_SH.length (m_sl m_SH) Q 39 [l0, l1] st (m_SH, m_si f k 6 x, g) := m_rst rfl (if_pos ⟨m_sho hs1 hs2, Or.inl rfl⟩)
theorem r25_39 {d : Nat} {Q : mQ} {l0 l1 : Option mV} {st : mS} {f : Nat → Nat → Int32} {g : Nat → Nat → Option Nat} {x : Option Nat}  : m_R (m_E d) 25 m_SH.length (m_sl m_SH) Q 39 [some (.inr x), l1] st (m_SH, f, g) = m_R (m_E d) 25 m_SH.length (m_sl m_SH) Q 40 [some (.inr x), l1] (.inr x :: st) (m_SH, f, g) := m_rst rfl rfl
theorem r25_40 {d : Nat} {Q : mQ} {l0 l1 : Option mV} {st : mS} {f : Nat → Nat → Int32} {g : Nat → Nat → Option Nat}  : m_R (m_E d) 25 m_SH.length (m_sl m_SH) Q 40 [l0, l1] st (m_SH, f, g) = m_R (m_E d) 25 m_SH.length (m_sl m_SH) Q 41 [l0, l1] (.inl 0 :: st) (m_SH, f, g) := m_rst rfl rfl
theorem r25_41 {d : Nat} {Q : mQ} {l0 l1 : Option mV} {st : mS} {f : Nat → Nat → Int32} {g : Nat → Nat → Option Nat} {k : Nat} {x : Int32} (hs1 : m_kn k = 0) (hs2 : m_ln k = 3) (hz : x = 0 ∨ x = 1) : m_R (m_E d) 25 m_SH.length (m_sl m_SH) Q 41 [l0, l1] (.inl x :: .inr (some k) :: st) (m_SH, f, g) = m_R (m_E d) 25 m_SH.length (m_sl m_SH) Q 44 [l0, l1] st (m_SH, m_si f k 7 x, g) := m_rst rfl (if_pos ⟨m_sho hs1 hs2, Or.inr ⟨rfl, hz⟩⟩)
theorem r25_44 {d : Nat} {Q : mQ} {l0 l1 : Option mV} {f : Nat → Nat → Int32} {g : Nat → Nat → Option Nat} : m_R (m_E d) 25 m_SH.length (m_sl m_SH) Q 44 [l0, l1] [] (m_SH, f, g) = Q none (m_SH, f, g) := m_rret (i := .return_) rfl (m_st_rv.trans (m_rv0 (me := 25) (N := m_SH.length) (S := m_sl m_SH) (w := (m_SH, f, g)) rfl (m_b0 rfl)))
end
