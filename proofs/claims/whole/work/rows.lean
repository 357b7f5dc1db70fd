section
-- ===== PART A: goes FIRST, ahead of the names: the tables' words, and 'selects' of the private methods out of them =====
/-- a private method of a class that the tables say can be made, by its rows of tables_1 -/
def lw_okq (q : MethodName × Nat) : Prop := (q.1.cls ≠ "java/lang/invoke/MethodHandle" ∧ q.1.cls ≠ "java/lang/invoke/VarHandle") ∧ Cond.instantiable q.1.cls q.2 ∈ tables_1 ∧ Cond.privateMethod q.1 ∈ tables_1 ∧ Cond.instanceMethod q.1 ∈ tables_1
theorem lw_p0 : lw_okq (⟨"FiberDesk", "isWellFormed", "(IIII)Z"⟩, 13) := ⟨⟨by decide +kernel, by decide +kernel⟩, List.mem_of_getElem? (i := 13) (by decide +kernel), List.mem_of_getElem? (i := 118) (by decide +kernel), List.mem_of_getElem? (i := 119) (by decide +kernel)⟩
theorem lw_p1 : lw_okq (⟨"FiberDesk", "effectAt", "(I)LFiberDesk$Effect;"⟩, 13) := ⟨⟨by decide +kernel, by decide +kernel⟩, List.mem_of_getElem? (i := 13) (by decide +kernel), List.mem_of_getElem? (i := 124) (by decide +kernel), List.mem_of_getElem? (i := 125) (by decide +kernel)⟩
theorem lw_p2 : lw_okq (⟨"FiberDesk", "placeAt", "(I)LFiberDesk$Place;"⟩, 13) := ⟨⟨by decide +kernel, by decide +kernel⟩, List.mem_of_getElem? (i := 13) (by decide +kernel), List.mem_of_getElem? (i := 131) (by decide +kernel), List.mem_of_getElem? (i := 132) (by decide +kernel)⟩
theorem lw_p3 : lw_okq (⟨"FiberDesk", "clearAll", "()V"⟩, 13) := ⟨⟨by decide +kernel, by decide +kernel⟩, List.mem_of_getElem? (i := 13) (by decide +kernel), List.mem_of_getElem? (i := 168) (by decide +kernel), List.mem_of_getElem? (i := 169) (by decide +kernel)⟩
theorem lw_p4 : lw_okq (⟨"FiberDesk", "makeFiber", "(LFiberDesk$Effect;II)V"⟩, 13) := ⟨⟨by decide +kernel, by decide +kernel⟩, List.mem_of_getElem? (i := 13) (by decide +kernel), List.mem_of_getElem? (i := 181) (by decide +kernel), List.mem_of_getElem? (i := 182) (by decide +kernel)⟩
theorem lw_p5 : lw_okq (⟨"FiberDesk", "hasTurn", "()Z"⟩, 13) := ⟨⟨by decide +kernel, by decide +kernel⟩, List.mem_of_getElem? (i := 13) (by decide +kernel), List.mem_of_getElem? (i := 267) (by decide +kernel), List.mem_of_getElem? (i := 268) (by decide +kernel)⟩
theorem lw_p6 : lw_okq (⟨"FiberDesk", "wakeSleepers", "()V"⟩, 13) := ⟨⟨by decide +kernel, by decide +kernel⟩, List.mem_of_getElem? (i := 13) (by decide +kernel), List.mem_of_getElem? (i := 271) (by decide +kernel), List.mem_of_getElem? (i := 272) (by decide +kernel)⟩
theorem lw_p7 : lw_okq (⟨"FiberDesk", "fiberAt", "(I)LFiberDesk$Fiber;"⟩, 13) := ⟨⟨by decide +kernel, by decide +kernel⟩, List.mem_of_getElem? (i := 13) (by decide +kernel), List.mem_of_getElem? (i := 275) (by decide +kernel), List.mem_of_getElem? (i := 276) (by decide +kernel)⟩
theorem lw_p8 : lw_okq (⟨"FiberDesk", "goOn", "(LFiberDesk$Fiber;)V"⟩, 13) := ⟨⟨by decide +kernel, by decide +kernel⟩, List.mem_of_getElem? (i := 13) (by decide +kernel), List.mem_of_getElem? (i := 279) (by decide +kernel), List.mem_of_getElem? (i := 280) (by decide +kernel)⟩
theorem lw_p9 : lw_okq (⟨"FiberDesk", "work", "()V"⟩, 13) := ⟨⟨by decide +kernel, by decide +kernel⟩, List.mem_of_getElem? (i := 13) (by decide +kernel), List.mem_of_getElem? (i := 295) (by decide +kernel), List.mem_of_getElem? (i := 296) (by decide +kernel)⟩
theorem lw_p10 : lw_okq (⟨"FiberDesk", "begin", "(LFiberDesk$Fiber;LFiberDesk$Effect;I)V"⟩, 13) := ⟨⟨by decide +kernel, by decide +kernel⟩, List.mem_of_getElem? (i := 13) (by decide +kernel), List.mem_of_getElem? (i := 323) (by decide +kernel), List.mem_of_getElem? (i := 324) (by decide +kernel)⟩
theorem lw_p11 : lw_okq (⟨"FiberDesk", "beginFork", "(LFiberDesk$Fiber;LFiberDesk$Effect;I)V"⟩, 13) := ⟨⟨by decide +kernel, by decide +kernel⟩, List.mem_of_getElem? (i := 13) (by decide +kernel), List.mem_of_getElem? (i := 371) (by decide +kernel), List.mem_of_getElem? (i := 372) (by decide +kernel)⟩
theorem lw_p12 : lw_okq (⟨"FiberDesk", "beginJoin", "(LFiberDesk$Fiber;I)V"⟩, 13) := ⟨⟨by decide +kernel, by decide +kernel⟩, List.mem_of_getElem? (i := 13) (by decide +kernel), List.mem_of_getElem? (i := 375) (by decide +kernel), List.mem_of_getElem? (i := 376) (by decide +kernel)⟩
theorem lw_p13 : lw_okq (⟨"FiberDesk", "beginHalt", "(LFiberDesk$Fiber;I)V"⟩, 13) := ⟨⟨by decide +kernel, by decide +kernel⟩, List.mem_of_getElem? (i := 13) (by decide +kernel), List.mem_of_getElem? (i := 384) (by decide +kernel), List.mem_of_getElem? (i := 385) (by decide +kernel)⟩
theorem lw_p14 : lw_okq (⟨"FiberDesk", "sendInterrupt", "(LFiberDesk$Fiber;I)V"⟩, 13) := ⟨⟨by decide +kernel, by decide +kernel⟩, List.mem_of_getElem? (i := 13) (by decide +kernel), List.mem_of_getElem? (i := 388) (by decide +kernel), List.mem_of_getElem? (i := 389) (by decide +kernel)⟩
theorem lw_p15 : lw_okq (⟨"FiberDesk", "leaveLine", "(LFiberDesk$Fiber;)V"⟩, 13) := ⟨⟨by decide +kernel, by decide +kernel⟩, List.mem_of_getElem? (i := 13) (by decide +kernel), List.mem_of_getElem? (i := 392) (by decide +kernel), List.mem_of_getElem? (i := 393) (by decide +kernel)⟩
def lw_privs_1 : List (MethodName × Nat) := [(⟨"FiberDesk", "isWellFormed", "(IIII)Z"⟩, 13), (⟨"FiberDesk", "effectAt", "(I)LFiberDesk$Effect;"⟩, 13), (⟨"FiberDesk", "placeAt", "(I)LFiberDesk$Place;"⟩, 13), (⟨"FiberDesk", "clearAll", "()V"⟩, 13), (⟨"FiberDesk", "makeFiber", "(LFiberDesk$Effect;II)V"⟩, 13), (⟨"FiberDesk", "hasTurn", "()Z"⟩, 13), (⟨"FiberDesk", "wakeSleepers", "()V"⟩, 13), (⟨"FiberDesk", "fiberAt", "(I)LFiberDesk$Fiber;"⟩, 13), (⟨"FiberDesk", "goOn", "(LFiberDesk$Fiber;)V"⟩, 13), (⟨"FiberDesk", "work", "()V"⟩, 13), (⟨"FiberDesk", "begin", "(LFiberDesk$Fiber;LFiberDesk$Effect;I)V"⟩, 13), (⟨"FiberDesk", "beginFork", "(LFiberDesk$Fiber;LFiberDesk$Effect;I)V"⟩, 13), (⟨"FiberDesk", "beginJoin", "(LFiberDesk$Fiber;I)V"⟩, 13), (⟨"FiberDesk", "beginHalt", "(LFiberDesk$Fiber;I)V"⟩, 13), (⟨"FiberDesk", "sendInterrupt", "(LFiberDesk$Fiber;I)V"⟩, 13), (⟨"FiberDesk", "leaveLine", "(LFiberDesk$Fiber;)V"⟩, 13)]
theorem lw_r1 : ∀ q ∈ lw_privs_1, lw_okq q := List.forall_mem_cons.mpr ⟨lw_p0, List.forall_mem_cons.mpr ⟨lw_p1, List.forall_mem_cons.mpr ⟨lw_p2, List.forall_mem_cons.mpr ⟨lw_p3, List.forall_mem_cons.mpr ⟨lw_p4, List.forall_mem_cons.mpr ⟨lw_p5, List.forall_mem_cons.mpr ⟨lw_p6, List.forall_mem_cons.mpr ⟨lw_p7, List.forall_mem_cons.mpr ⟨lw_p8, List.forall_mem_cons.mpr ⟨lw_p9, List.forall_mem_cons.mpr ⟨lw_p10, List.forall_mem_cons.mpr ⟨lw_p11, List.forall_mem_cons.mpr ⟨lw_p12, List.forall_mem_cons.mpr ⟨lw_p13, List.forall_mem_cons.mpr ⟨lw_p14, List.forall_mem_cons.mpr ⟨lw_p15, fun _ h => absurd h List.not_mem_nil⟩⟩⟩⟩⟩⟩⟩⟩⟩⟩⟩⟩⟩⟩⟩⟩
theorem lw_p16 : lw_okq (⟨"FiberDesk", "beginRace", "(LFiberDesk$Fiber;LFiberDesk$Effect;I)V"⟩, 13) := ⟨⟨by decide +kernel, by decide +kernel⟩, List.mem_of_getElem? (i := 13) (by decide +kernel), List.mem_of_getElem? (i := 397) (by decide +kernel), List.mem_of_getElem? (i := 398) (by decide +kernel)⟩
theorem lw_p17 : lw_okq (⟨"FiberDesk", "beginSleep", "(LFiberDesk$Fiber;II)V"⟩, 13) := ⟨⟨by decide +kernel, by decide +kernel⟩, List.mem_of_getElem? (i := 13) (by decide +kernel), List.mem_of_getElem? (i := 401) (by decide +kernel), List.mem_of_getElem? (i := 402) (by decide +kernel)⟩
theorem lw_p18 : lw_okq (⟨"FiberDesk", "put", "(I)V"⟩, 13) := ⟨⟨by decide +kernel, by decide +kernel⟩, List.mem_of_getElem? (i := 13) (by decide +kernel), List.mem_of_getElem? (i := 408) (by decide +kernel), List.mem_of_getElem? (i := 409) (by decide +kernel)⟩
theorem lw_p19 : lw_okq (⟨"FiberDesk", "beginAtPlace", "(LFiberDesk$Fiber;LFiberDesk$Effect;I)V"⟩, 13) := ⟨⟨by decide +kernel, by decide +kernel⟩, List.mem_of_getElem? (i := 13) (by decide +kernel), List.mem_of_getElem? (i := 412) (by decide +kernel), List.mem_of_getElem? (i := 413) (by decide +kernel)⟩
theorem lw_p20 : lw_okq (⟨"FiberDesk", "beginAwait", "(LFiberDesk$Fiber;LFiberDesk$Place;I)V"⟩, 13) := ⟨⟨by decide +kernel, by decide +kernel⟩, List.mem_of_getElem? (i := 13) (by decide +kernel), List.mem_of_getElem? (i := 416) (by decide +kernel), List.mem_of_getElem? (i := 417) (by decide +kernel)⟩
theorem lw_p21 : lw_okq (⟨"FiberDesk", "keepPromise", "(LFiberDesk$Place;I)Z"⟩, 13) := ⟨⟨by decide +kernel, by decide +kernel⟩, List.mem_of_getElem? (i := 13) (by decide +kernel), List.mem_of_getElem? (i := 420) (by decide +kernel), List.mem_of_getElem? (i := 421) (by decide +kernel)⟩
theorem lw_p22 : lw_okq (⟨"FiberDesk", "beginTake", "(LFiberDesk$Fiber;LFiberDesk$Place;I)V"⟩, 13) := ⟨⟨by decide +kernel, by decide +kernel⟩, List.mem_of_getElem? (i := 13) (by decide +kernel), List.mem_of_getElem? (i := 425) (by decide +kernel), List.mem_of_getElem? (i := 426) (by decide +kernel)⟩
theorem lw_p23 : lw_okq (⟨"FiberDesk", "leaveGate", "(LFiberDesk$Place;)V"⟩, 13) := ⟨⟨by decide +kernel, by decide +kernel⟩, List.mem_of_getElem? (i := 13) (by decide +kernel), List.mem_of_getElem? (i := 429) (by decide +kernel), List.mem_of_getElem? (i := 430) (by decide +kernel)⟩
theorem lw_p24 : lw_okq (⟨"FiberDesk", "end", "(LFiberDesk$Fiber;)V"⟩, 13) := ⟨⟨by decide +kernel, by decide +kernel⟩, List.mem_of_getElem? (i := 13) (by decide +kernel), List.mem_of_getElem? (i := 510) (by decide +kernel), List.mem_of_getElem? (i := 511) (by decide +kernel)⟩
theorem lw_p25 : lw_okq (⟨"FiberDesk", "tellRace", "(LFiberDesk$Fiber;LFiberDesk$Fiber;)V"⟩, 13) := ⟨⟨by decide +kernel, by decide +kernel⟩, List.mem_of_getElem? (i := 13) (by decide +kernel), List.mem_of_getElem? (i := 514) (by decide +kernel), List.mem_of_getElem? (i := 515) (by decide +kernel)⟩
theorem lw_p26 : lw_okq (⟨"FiberDesk", "giveRaceExit", "(LFiberDesk$Fiber;LFiberDesk$Fiber;LFiberDesk$Fiber;LFiberDesk$Fiber;)V"⟩, 13) := ⟨⟨by decide +kernel, by decide +kernel⟩, List.mem_of_getElem? (i := 13) (by decide +kernel), List.mem_of_getElem? (i := 518) (by decide +kernel), List.mem_of_getElem? (i := 519) (by decide +kernel)⟩
theorem lw_p27 : lw_okq (⟨"FiberDesk", "tellEnd", "(LFiberDesk$Fiber;LFiberDesk$Fiber;)V"⟩, 13) := ⟨⟨by decide +kernel, by decide +kernel⟩, List.mem_of_getElem? (i := 13) (by decide +kernel), List.mem_of_getElem? (i := 523) (by decide +kernel), List.mem_of_getElem? (i := 524) (by decide +kernel)⟩
theorem lw_p28 : lw_okq (⟨"FiberDesk", "standing", "()I"⟩, 13) := ⟨⟨by decide +kernel, by decide +kernel⟩, List.mem_of_getElem? (i := 13) (by decide +kernel), List.mem_of_getElem? (i := 531) (by decide +kernel), List.mem_of_getElem? (i := 532) (by decide +kernel)⟩
theorem lw_p29 : lw_okq (⟨"FiberDeskModel", "isEffect", "(I)Z"⟩, 52) := ⟨⟨by decide +kernel, by decide +kernel⟩, List.mem_of_getElem? (i := 567) (by decide +kernel), List.mem_of_getElem? (i := 741) (by decide +kernel), List.mem_of_getElem? (i := 742) (by decide +kernel)⟩
theorem lw_p30 : lw_okq (⟨"FiberDeskModel", "make", "(III)I"⟩, 52) := ⟨⟨by decide +kernel, by decide +kernel⟩, List.mem_of_getElem? (i := 567) (by decide +kernel), List.mem_of_getElem? (i := 749) (by decide +kernel), List.mem_of_getElem? (i := 750) (by decide +kernel)⟩
theorem lw_p31 : lw_okq (⟨"FiberDeskModel", "strike", "(II)V"⟩, 52) := ⟨⟨by decide +kernel, by decide +kernel⟩, List.mem_of_getElem? (i := 567) (by decide +kernel), List.mem_of_getElem? (i := 757) (by decide +kernel), List.mem_of_getElem? (i := 758) (by decide +kernel)⟩
def lw_privs_2 : List (MethodName × Nat) := [(⟨"FiberDesk", "beginRace", "(LFiberDesk$Fiber;LFiberDesk$Effect;I)V"⟩, 13), (⟨"FiberDesk", "beginSleep", "(LFiberDesk$Fiber;II)V"⟩, 13), (⟨"FiberDesk", "put", "(I)V"⟩, 13), (⟨"FiberDesk", "beginAtPlace", "(LFiberDesk$Fiber;LFiberDesk$Effect;I)V"⟩, 13), (⟨"FiberDesk", "beginAwait", "(LFiberDesk$Fiber;LFiberDesk$Place;I)V"⟩, 13), (⟨"FiberDesk", "keepPromise", "(LFiberDesk$Place;I)Z"⟩, 13), (⟨"FiberDesk", "beginTake", "(LFiberDesk$Fiber;LFiberDesk$Place;I)V"⟩, 13), (⟨"FiberDesk", "leaveGate", "(LFiberDesk$Place;)V"⟩, 13), (⟨"FiberDesk", "end", "(LFiberDesk$Fiber;)V"⟩, 13), (⟨"FiberDesk", "tellRace", "(LFiberDesk$Fiber;LFiberDesk$Fiber;)V"⟩, 13), (⟨"FiberDesk", "giveRaceExit", "(LFiberDesk$Fiber;LFiberDesk$Fiber;LFiberDesk$Fiber;LFiberDesk$Fiber;)V"⟩, 13), (⟨"FiberDesk", "tellEnd", "(LFiberDesk$Fiber;LFiberDesk$Fiber;)V"⟩, 13), (⟨"FiberDesk", "standing", "()I"⟩, 13), (⟨"FiberDeskModel", "isEffect", "(I)Z"⟩, 52), (⟨"FiberDeskModel", "make", "(III)I"⟩, 52), (⟨"FiberDeskModel", "strike", "(II)V"⟩, 52)]
theorem lw_r2 : ∀ q ∈ lw_privs_2, lw_okq q := List.forall_mem_cons.mpr ⟨lw_p16, List.forall_mem_cons.mpr ⟨lw_p17, List.forall_mem_cons.mpr ⟨lw_p18, List.forall_mem_cons.mpr ⟨lw_p19, List.forall_mem_cons.mpr ⟨lw_p20, List.forall_mem_cons.mpr ⟨lw_p21, List.forall_mem_cons.mpr ⟨lw_p22, List.forall_mem_cons.mpr ⟨lw_p23, List.forall_mem_cons.mpr ⟨lw_p24, List.forall_mem_cons.mpr ⟨lw_p25, List.forall_mem_cons.mpr ⟨lw_p26, List.forall_mem_cons.mpr ⟨lw_p27, List.forall_mem_cons.mpr ⟨lw_p28, List.forall_mem_cons.mpr ⟨lw_p29, List.forall_mem_cons.mpr ⟨lw_p30, List.forall_mem_cons.mpr ⟨lw_p31, fun _ h => absurd h List.not_mem_nil⟩⟩⟩⟩⟩⟩⟩⟩⟩⟩⟩⟩⟩⟩⟩⟩
theorem lw_p32 : lw_okq (⟨"FiberDeskModel", "wake", "(I)V"⟩, 52) := ⟨⟨by decide +kernel, by decide +kernel⟩, List.mem_of_getElem? (i := 567) (by decide +kernel), List.mem_of_getElem? (i := 761) (by decide +kernel), List.mem_of_getElem? (i := 762) (by decide +kernel)⟩
theorem lw_p33 : lw_okq (⟨"FiberDeskModel", "keeps", "(II)Z"⟩, 52) := ⟨⟨by decide +kernel, by decide +kernel⟩, List.mem_of_getElem? (i := 567) (by decide +kernel), List.mem_of_getElem? (i := 769) (by decide +kernel), List.mem_of_getElem? (i := 770) (by decide +kernel)⟩
theorem lw_p34 : lw_okq (⟨"FiberDeskModel", "firstFor", "(II)I"⟩, 52) := ⟨⟨by decide +kernel, by decide +kernel⟩, List.mem_of_getElem? (i := 567) (by decide +kernel), List.mem_of_getElem? (i := 773) (by decide +kernel), List.mem_of_getElem? (i := 774) (by decide +kernel)⟩
theorem lw_p35 : lw_okq (⟨"FiberDeskModel", "give", "(II)V"⟩, 52) := ⟨⟨by decide +kernel, by decide +kernel⟩, List.mem_of_getElem? (i := 567) (by decide +kernel), List.mem_of_getElem? (i := 777) (by decide +kernel), List.mem_of_getElem? (i := 778) (by decide +kernel)⟩
theorem lw_p36 : lw_okq (⟨"FiberDeskModel", "begin", "()V"⟩, 52) := ⟨⟨by decide +kernel, by decide +kernel⟩, List.mem_of_getElem? (i := 567) (by decide +kernel), List.mem_of_getElem? (i := 785) (by decide +kernel), List.mem_of_getElem? (i := 786) (by decide +kernel)⟩
theorem lw_p37 : lw_okq (⟨"FiberDeskModel", "step", "()V"⟩, 52) := ⟨⟨by decide +kernel, by decide +kernel⟩, List.mem_of_getElem? (i := 567) (by decide +kernel), List.mem_of_getElem? (i := 789) (by decide +kernel), List.mem_of_getElem? (i := 790) (by decide +kernel)⟩
theorem lw_p38 : lw_okq (⟨"FiberDeskModel", "fail", "(III)V"⟩, 52) := ⟨⟨by decide +kernel, by decide +kernel⟩, List.mem_of_getElem? (i := 567) (by decide +kernel), List.mem_of_getElem? (i := 793) (by decide +kernel), List.mem_of_getElem? (i := 794) (by decide +kernel)⟩
theorem lw_p39 : lw_okq (⟨"FiberDeskModel", "single", "(III)V"⟩, 52) := ⟨⟨by decide +kernel, by decide +kernel⟩, List.mem_of_getElem? (i := 567) (by decide +kernel), List.mem_of_getElem? (i := 797) (by decide +kernel), List.mem_of_getElem? (i := 798) (by decide +kernel)⟩
theorem lw_p40 : lw_okq (⟨"FiberDeskModel", "act", "(III)V"⟩, 52) := ⟨⟨by decide +kernel, by decide +kernel⟩, List.mem_of_getElem? (i := 567) (by decide +kernel), List.mem_of_getElem? (i := 801) (by decide +kernel), List.mem_of_getElem? (i := 802) (by decide +kernel)⟩
theorem lw_p41 : lw_okq (⟨"FiberDeskModel", "frame", "(III)V"⟩, 52) := ⟨⟨by decide +kernel, by decide +kernel⟩, List.mem_of_getElem? (i := 567) (by decide +kernel), List.mem_of_getElem? (i := 805) (by decide +kernel), List.mem_of_getElem? (i := 806) (by decide +kernel)⟩
theorem lw_p42 : lw_okq (⟨"FiberDeskModel", "does", "(III)V"⟩, 52) := ⟨⟨by decide +kernel, by decide +kernel⟩, List.mem_of_getElem? (i := 567) (by decide +kernel), List.mem_of_getElem? (i := 809) (by decide +kernel), List.mem_of_getElem? (i := 810) (by decide +kernel)⟩
theorem lw_p43 : lw_okq (⟨"FiberDeskModel", "others", "(IIII)V"⟩, 52) := ⟨⟨by decide +kernel, by decide +kernel⟩, List.mem_of_getElem? (i := 567) (by decide +kernel), List.mem_of_getElem? (i := 813) (by decide +kernel), List.mem_of_getElem? (i := 814) (by decide +kernel)⟩
theorem lw_p44 : lw_okq (⟨"FiberDeskModel", "register", "(III)V"⟩, 52) := ⟨⟨by decide +kernel, by decide +kernel⟩, List.mem_of_getElem? (i := 567) (by decide +kernel), List.mem_of_getElem? (i := 817) (by decide +kernel), List.mem_of_getElem? (i := 818) (by decide +kernel)⟩
theorem lw_p45 : lw_okq (⟨"FiberDeskModel", "rest", "(IIII)V"⟩, 52) := ⟨⟨by decide +kernel, by decide +kernel⟩, List.mem_of_getElem? (i := 567) (by decide +kernel), List.mem_of_getElem? (i := 821) (by decide +kernel), List.mem_of_getElem? (i := 822) (by decide +kernel)⟩
theorem lw_p46 : lw_okq (⟨"FiberDeskModel", "hand", "(II)V"⟩, 52) := ⟨⟨by decide +kernel, by decide +kernel⟩, List.mem_of_getElem? (i := 567) (by decide +kernel), List.mem_of_getElem? (i := 825) (by decide +kernel), List.mem_of_getElem? (i := 826) (by decide +kernel)⟩
theorem lw_p47 : lw_okq (⟨"FiberDeskModel", "copy", "(II)V"⟩, 52) := ⟨⟨by decide +kernel, by decide +kernel⟩, List.mem_of_getElem? (i := 567) (by decide +kernel), List.mem_of_getElem? (i := 829) (by decide +kernel), List.mem_of_getElem? (i := 830) (by decide +kernel)⟩
def lw_privs_3 : List (MethodName × Nat) := [(⟨"FiberDeskModel", "wake", "(I)V"⟩, 52), (⟨"FiberDeskModel", "keeps", "(II)Z"⟩, 52), (⟨"FiberDeskModel", "firstFor", "(II)I"⟩, 52), (⟨"FiberDeskModel", "give", "(II)V"⟩, 52), (⟨"FiberDeskModel", "begin", "()V"⟩, 52), (⟨"FiberDeskModel", "step", "()V"⟩, 52), (⟨"FiberDeskModel", "fail", "(III)V"⟩, 52), (⟨"FiberDeskModel", "single", "(III)V"⟩, 52), (⟨"FiberDeskModel", "act", "(III)V"⟩, 52), (⟨"FiberDeskModel", "frame", "(III)V"⟩, 52), (⟨"FiberDeskModel", "does", "(III)V"⟩, 52), (⟨"FiberDeskModel", "others", "(IIII)V"⟩, 52), (⟨"FiberDeskModel", "register", "(III)V"⟩, 52), (⟨"FiberDeskModel", "rest", "(IIII)V"⟩, 52), (⟨"FiberDeskModel", "hand", "(II)V"⟩, 52), (⟨"FiberDeskModel", "copy", "(II)V"⟩, 52)]
theorem lw_r3 : ∀ q ∈ lw_privs_3, lw_okq q := List.forall_mem_cons.mpr ⟨lw_p32, List.forall_mem_cons.mpr ⟨lw_p33, List.forall_mem_cons.mpr ⟨lw_p34, List.forall_mem_cons.mpr ⟨lw_p35, List.forall_mem_cons.mpr ⟨lw_p36, List.forall_mem_cons.mpr ⟨lw_p37, List.forall_mem_cons.mpr ⟨lw_p38, List.forall_mem_cons.mpr ⟨lw_p39, List.forall_mem_cons.mpr ⟨lw_p40, List.forall_mem_cons.mpr ⟨lw_p41, List.forall_mem_cons.mpr ⟨lw_p42, List.forall_mem_cons.mpr ⟨lw_p43, List.forall_mem_cons.mpr ⟨lw_p44, List.forall_mem_cons.mpr ⟨lw_p45, List.forall_mem_cons.mpr ⟨lw_p46, List.forall_mem_cons.mpr ⟨lw_p47, fun _ h => absurd h List.not_mem_nil⟩⟩⟩⟩⟩⟩⟩⟩⟩⟩⟩⟩⟩⟩⟩⟩
theorem lw_p48 : lw_okq (⟨"FiberDeskModel", "shared", "(IIII)V"⟩, 52) := ⟨⟨by decide +kernel, by decide +kernel⟩, List.mem_of_getElem? (i := 567) (by decide +kernel), List.mem_of_getElem? (i := 833) (by decide +kernel), List.mem_of_getElem? (i := 834) (by decide +kernel)⟩
theorem lw_p49 : lw_okq (⟨"FiberDeskModel", "comes", "(II)V"⟩, 52) := ⟨⟨by decide +kernel, by decide +kernel⟩, List.mem_of_getElem? (i := 567) (by decide +kernel), List.mem_of_getElem? (i := 837) (by decide +kernel), List.mem_of_getElem? (i := 838) (by decide +kernel)⟩
theorem lw_p50 : lw_okq (⟨"FiberDeskModel", "join", "(III)V"⟩, 52) := ⟨⟨by decide +kernel, by decide +kernel⟩, List.mem_of_getElem? (i := 567) (by decide +kernel), List.mem_of_getElem? (i := 841) (by decide +kernel), List.mem_of_getElem? (i := 842) (by decide +kernel)⟩
theorem lw_p51 : lw_okq (⟨"FiberDeskModel", "close", "(II)V"⟩, 52) := ⟨⟨by decide +kernel, by decide +kernel⟩, List.mem_of_getElem? (i := 567) (by decide +kernel), List.mem_of_getElem? (i := 845) (by decide +kernel), List.mem_of_getElem? (i := 846) (by decide +kernel)⟩
theorem lw_p52 : lw_okq (⟨"FiberDeskModel", "closes", "(II)V"⟩, 52) := ⟨⟨by decide +kernel, by decide +kernel⟩, List.mem_of_getElem? (i := 567) (by decide +kernel), List.mem_of_getElem? (i := 849) (by decide +kernel), List.mem_of_getElem? (i := 850) (by decide +kernel)⟩
theorem lw_p53 : lw_okq (⟨"FiberDeskModel", "ends", "(I)V"⟩, 52) := ⟨⟨by decide +kernel, by decide +kernel⟩, List.mem_of_getElem? (i := 567) (by decide +kernel), List.mem_of_getElem? (i := 853) (by decide +kernel), List.mem_of_getElem? (i := 854) (by decide +kernel)⟩
theorem lw_p54 : lw_okq (⟨"FiberDeskModel", "hears", "(II)V"⟩, 52) := ⟨⟨by decide +kernel, by decide +kernel⟩, List.mem_of_getElem? (i := 567) (by decide +kernel), List.mem_of_getElem? (i := 857) (by decide +kernel), List.mem_of_getElem? (i := 858) (by decide +kernel)⟩
theorem lw_p55 : lw_okq (⟨"FiberDeskModel", "stands", "()I"⟩, 52) := ⟨⟨by decide +kernel, by decide +kernel⟩, List.mem_of_getElem? (i := 567) (by decide +kernel), List.mem_of_getElem? (i := 861) (by decide +kernel), List.mem_of_getElem? (i := 862) (by decide +kernel)⟩
theorem lw_p56 : lw_okq (⟨"FiberDeskModel", "waiting", "(II)I"⟩, 52) := ⟨⟨by decide +kernel, by decide +kernel⟩, List.mem_of_getElem? (i := 567) (by decide +kernel), List.mem_of_getElem? (i := 885) (by decide +kernel), List.mem_of_getElem? (i := 886) (by decide +kernel)⟩
def lw_privs_4 : List (MethodName × Nat) := [(⟨"FiberDeskModel", "shared", "(IIII)V"⟩, 52), (⟨"FiberDeskModel", "comes", "(II)V"⟩, 52), (⟨"FiberDeskModel", "join", "(III)V"⟩, 52), (⟨"FiberDeskModel", "close", "(II)V"⟩, 52), (⟨"FiberDeskModel", "closes", "(II)V"⟩, 52), (⟨"FiberDeskModel", "ends", "(I)V"⟩, 52), (⟨"FiberDeskModel", "hears", "(II)V"⟩, 52), (⟨"FiberDeskModel", "stands", "()I"⟩, 52), (⟨"FiberDeskModel", "waiting", "(II)I"⟩, 52)]
theorem lw_r4 : ∀ q ∈ lw_privs_4, lw_okq q := List.forall_mem_cons.mpr ⟨lw_p48, List.forall_mem_cons.mpr ⟨lw_p49, List.forall_mem_cons.mpr ⟨lw_p50, List.forall_mem_cons.mpr ⟨lw_p51, List.forall_mem_cons.mpr ⟨lw_p52, List.forall_mem_cons.mpr ⟨lw_p53, List.forall_mem_cons.mpr ⟨lw_p54, List.forall_mem_cons.mpr ⟨lw_p55, List.forall_mem_cons.mpr ⟨lw_p56, fun _ h => absurd h List.not_mem_nil⟩⟩⟩⟩⟩⟩⟩⟩⟩
def lw_privs : List (MethodName × Nat) := lw_privs_1 ++ (lw_privs_2 ++ (lw_privs_3 ++ (lw_privs_4)))
def lw_tbl : List Cond := k2_sels lw_privs ++ tables_1
theorem lw_privs_ok : ∀ q ∈ lw_privs, lw_okq q := by
  show ∀ q ∈ lw_privs_1 ++ (lw_privs_2 ++ (lw_privs_3 ++ (lw_privs_4))), lw_okq q
  exact List.forall_mem_append.mpr ⟨lw_r1, List.forall_mem_append.mpr ⟨lw_r2, List.forall_mem_append.mpr ⟨lw_r3, lw_r4⟩⟩⟩
-- ===== end of PART A; then your names; then what follows =====
end
section
/-! names, by program (wip/tools/gen_names.py) out of the listing and the tables -/
def kTB : List Cond := lw_tbl.filter goodWord
theorem tb_in {w : Cond} (i : Nat) (h : lw_tbl[i]? = some w) (g : goodWord w = true) : w ∈ kTB := List.mem_filter.mpr ⟨List.mem_of_getElem? h, g⟩
theorem kGood : ∀ w ∈ kTB, (w.onTables && w.keeps) = true ∨ ∃ ty, w = .arrayClass ty := fun w h => good_of_word (List.mem_filter.mp h).2
def T0 : u_T := fun k => match k with
  | 0 => ("FiberDesk", "effects", "[LFiberDesk$Effect;", true)
  | 1 => ("FiberDesk", "effectCount", "I", false)
  | 2 => ("FiberDesk", "fibers", "[LFiberDesk$Fiber;", true)
  | 3 => ("FiberDesk", "fiberCount", "I", false)
  | 4 => ("FiberDesk", "queue", "LFiberDesk$Line;", true)
  | 5 => ("FiberDesk", "places", "[LFiberDesk$Place;", true)
  | 6 => ("FiberDesk", "prints", "[I", true)
  | 7 => ("FiberDesk", "putOut", "I", false)
  | 8 => ("FiberDesk", "clock", "I", false)
  | 9 => ("FiberDesk", "steps", "I", false)
  | 10 => ("FiberDesk", "turns", "I", false)
  | 11 => ("FiberDesk", "atWork", "LFiberDesk$Fiber;", false)
  | _ => ("FiberDesk", "turnStepsLeft", "I", false)
def Y0 : Nat → FieldType := fun k => match k with
  | 0 => (.array (.object "FiberDesk$Effect"))
  | 1 => .int
  | 2 => (.array (.object "FiberDesk$Fiber"))
  | 3 => .int
  | 4 => (.object "FiberDesk$Line")
  | 5 => (.array (.object "FiberDesk$Place"))
  | 6 => (.array .int)
  | 7 => .int
  | 8 => .int
  | 9 => .int
  | 10 => .int
  | 11 => (.object "FiberDesk$Fiber")
  | _ => .int
theorem nm0 : ∀ a, a < 13 → ∀ b, b < 13 → a ≠ b → (T0 a).2.1 ≠ (T0 b).2.1 := by decide +kernel
theorem ty0 : ∀ k, k < 13 → parseFieldDescriptor (T0 k).2.2.1 = some (Y0 k) := by decide +kernel
theorem in0 : ∀ w ∈ u_ws "FiberDesk" T0 13, w ∈ kTB := by
  have h : (u_ws "FiberDesk" T0 13) = ([143, 145, 147, 149, 151, 153, 155, 157, 159, 161, 163, 165, 167] : List Nat).filterMap (fun i => lw_tbl[i]?) := by decide +kernel
  have g : (u_ws "FiberDesk" T0 13).all goodWord = true := by decide +kernel
  intro w hw
  have g1 := List.all_eq_true.mp g w hw
  rw [h] at hw
  obtain ⟨i, -, hi⟩ := List.mem_filterMap.mp hw
  exact tb_in i hi g1
def T1 : u_T := fun k => match k with
  | 0 => ("FiberDesk$Line", "numbers", "[I", true)
  | _ => ("FiberDesk$Line", "size", "I", false)
def Y1 : Nat → FieldType := fun k => match k with
  | 0 => (.array .int)
  | _ => .int
theorem nm1 : ∀ a, a < 2 → ∀ b, b < 2 → a ≠ b → (T1 a).2.1 ≠ (T1 b).2.1 := by decide +kernel
theorem ty1 : ∀ k, k < 2 → parseFieldDescriptor (T1 k).2.2.1 = some (Y1 k) := by decide +kernel
theorem in1 : ∀ w ∈ u_ws "FiberDesk$Line" T1 2, w ∈ kTB := by
  have h : (u_ws "FiberDesk$Line" T1 2) = ([90, 92] : List Nat).filterMap (fun i => lw_tbl[i]?) := by decide +kernel
  have g : (u_ws "FiberDesk$Line" T1 2).all goodWord = true := by decide +kernel
  intro w hw
  have g1 := List.all_eq_true.mp g w hw
  rw [h] at hw
  obtain ⟨i, -, hi⟩ := List.mem_filterMap.mp hw
  exact tb_in i hi g1
def T2 : u_T := fun k => match k with
  | 0 => ("FiberDesk$Place", "cell", "I", false)
  | 1 => ("FiberDesk$Place", "isKept", "Z", false)
  | 2 => ("FiberDesk$Place", "promised", "I", false)
  | 3 => ("FiberDesk$Place", "permits", "I", false)
  | 4 => ("FiberDesk$Place", "awaiting", "LFiberDesk$Line;", true)
  | _ => ("FiberDesk$Place", "taking", "LFiberDesk$Line;", true)
def Y2 : Nat → FieldType := fun k => match k with
  | 0 => .int
  | 1 => .boolean
  | 2 => .int
  | 3 => .int
  | 4 => (.object "FiberDesk$Line")
  | _ => (.object "FiberDesk$Line")
theorem nm2 : ∀ a, a < 6 → ∀ b, b < 6 → a ≠ b → (T2 a).2.1 ≠ (T2 b).2.1 := by decide +kernel
theorem ty2 : ∀ k, k < 6 → parseFieldDescriptor (T2 k).2.2.1 = some (Y2 k) := by decide +kernel
theorem in2 : ∀ w ∈ u_ws "FiberDesk$Place" T2 6, w ∈ kTB := by
  have h : (u_ws "FiberDesk$Place" T2 6) = ([117, 119, 121, 123, 125, 127] : List Nat).filterMap (fun i => lw_tbl[i]?) := by decide +kernel
  have g : (u_ws "FiberDesk$Place" T2 6).all goodWord = true := by decide +kernel
  intro w hw
  have g1 := List.all_eq_true.mp g w hw
  rw [h] at hw
  obtain ⟨i, -, hi⟩ := List.mem_filterMap.mp hw
  exact tb_in i hi g1
def T3 : u_T := fun k => match k with
  | 0 => ("FiberDesk$Effect", "kind", "I", true)
  | 1 => ("FiberDesk$Effect", "n", "I", true)
  | 2 => ("FiberDesk$Effect", "x", "LFiberDesk$Effect;", true)
  | 3 => ("FiberDesk$Effect", "y", "LFiberDesk$Effect;", true)
  | _ => ("FiberDesk$Effect", "z", "LFiberDesk$Effect;", true)
def Y3 : Nat → FieldType := fun k => match k with
  | 0 => .int
  | 1 => .int
  | 2 => (.object "FiberDesk$Effect")
  | 3 => (.object "FiberDesk$Effect")
  | _ => (.object "FiberDesk$Effect")
theorem nm3 : ∀ a, a < 5 → ∀ b, b < 5 → a ≠ b → (T3 a).2.1 ≠ (T3 b).2.1 := by decide +kernel
theorem ty3 : ∀ k, k < 5 → parseFieldDescriptor (T3 k).2.2.1 = some (Y3 k) := by decide +kernel
theorem in3 : ∀ w ∈ u_ws "FiberDesk$Effect" T3 5, w ∈ kTB := by
  have h : (u_ws "FiberDesk$Effect" T3 5) = ([209, 211, 213, 215, 217] : List Nat).filterMap (fun i => lw_tbl[i]?) := by decide +kernel
  have g : (u_ws "FiberDesk$Effect" T3 5).all goodWord = true := by decide +kernel
  intro w hw
  have g1 := List.all_eq_true.mp g w hw
  rw [h] at hw
  obtain ⟨i, -, hi⟩ := List.mem_filterMap.mp hw
  exact tb_in i hi g1
def T4 : u_T := fun k => match k with
  | 0 => ("FiberDesk$Fiber", "number", "I", true)
  | 1 => ("FiberDesk$Fiber", "parent", "I", true)
  | 2 => ("FiberDesk$Fiber", "todo", "LFiberDesk$Effect;", false)
  | 3 => ("FiberDesk$Fiber", "input", "I", false)
  | 4 => ("FiberDesk$Fiber", "value", "I", false)
  | 5 => ("FiberDesk$Fiber", "cause", "LFiberDesk$Cause;", false)
  | 6 => ("FiberDesk$Fiber", "ended", "Z", false)
  | 7 => ("FiberDesk$Fiber", "top", "LFiberDesk$Frame;", false)
  | 8 => ("FiberDesk$Fiber", "depth", "I", false)
  | 9 => ("FiberDesk$Fiber", "masked", "Z", false)
  | 10 => ("FiberDesk$Fiber", "interrupted", "I", false)
  | 11 => ("FiberDesk$Fiber", "interrupter", "I", false)
  | 12 => ("FiberDesk$Fiber", "steps", "I", false)
  | 13 => ("FiberDesk$Fiber", "waitsFor", "I", false)
  | 14 => ("FiberDesk$Fiber", "waitsOn", "I", false)
  | _ => ("FiberDesk$Fiber", "wakesAt", "I", false)
def Y4 : Nat → FieldType := fun k => match k with
  | 0 => .int
  | 1 => .int
  | 2 => (.object "FiberDesk$Effect")
  | 3 => .int
  | 4 => .int
  | 5 => (.object "FiberDesk$Cause")
  | 6 => .boolean
  | 7 => (.object "FiberDesk$Frame")
  | 8 => .int
  | 9 => .boolean
  | 10 => .int
  | 11 => .int
  | 12 => .int
  | 13 => .int
  | 14 => .int
  | _ => .int
theorem nm4 : ∀ a, a < 16 → ∀ b, b < 16 → a ≠ b → (T4 a).2.1 ≠ (T4 b).2.1 := by decide +kernel
theorem ty4 : ∀ k, k < 16 → parseFieldDescriptor (T4 k).2.2.1 = some (Y4 k) := by decide +kernel
theorem in4 : ∀ w ∈ u_ws "FiberDesk$Fiber" T4 16, w ∈ kTB := by
  have h : (u_ws "FiberDesk$Fiber" T4 16) = ([278, 280, 282, 284, 286, 288, 290, 292, 294, 296, 298, 300, 302, 304, 306, 308] : List Nat).filterMap (fun i => lw_tbl[i]?) := by decide +kernel
  have g : (u_ws "FiberDesk$Fiber" T4 16).all goodWord = true := by decide +kernel
  intro w hw
  have g1 := List.all_eq_true.mp g w hw
  rw [h] at hw
  obtain ⟨i, -, hi⟩ := List.mem_filterMap.mp hw
  exact tb_in i hi g1
def T5 : u_T := fun k => match k with
  | 0 => ("FiberDesk$Frame", "effect", "LFiberDesk$Effect;", true)
  | 1 => ("FiberDesk$Frame", "maskedBefore", "Z", true)
  | 2 => ("FiberDesk$Frame", "below", "LFiberDesk$Frame;", true)
  | 3 => ("FiberDesk$Frame", "closers", "LFiberDesk$Closer;", false)
  | 4 => ("FiberDesk$Frame", "held", "I", false)
  | 5 => ("FiberDesk$Frame", "closing", "Z", false)
  | 6 => ("FiberDesk$Frame", "value", "I", false)
  | _ => ("FiberDesk$Frame", "cause", "LFiberDesk$Cause;", false)
def Y5 : Nat → FieldType := fun k => match k with
  | 0 => (.object "FiberDesk$Effect")
  | 1 => .boolean
  | 2 => (.object "FiberDesk$Frame")
  | 3 => (.object "FiberDesk$Closer")
  | 4 => .int
  | 5 => .boolean
  | 6 => .int
  | _ => (.object "FiberDesk$Cause")
theorem nm5 : ∀ a, a < 8 → ∀ b, b < 8 → a ≠ b → (T5 a).2.1 ≠ (T5 b).2.1 := by decide +kernel
theorem ty5 : ∀ k, k < 8 → parseFieldDescriptor (T5 k).2.2.1 = some (Y5 k) := by decide +kernel
theorem in5 : ∀ w ∈ u_ws "FiberDesk$Frame" T5 8, w ∈ kTB := by
  have h : (u_ws "FiberDesk$Frame" T5 8) = ([519, 521, 523, 525, 527, 529, 531, 533] : List Nat).filterMap (fun i => lw_tbl[i]?) := by decide +kernel
  have g : (u_ws "FiberDesk$Frame" T5 8).all goodWord = true := by decide +kernel
  intro w hw
  have g1 := List.all_eq_true.mp g w hw
  rw [h] at hw
  obtain ⟨i, -, hi⟩ := List.mem_filterMap.mp hw
  exact tb_in i hi g1
def T6 : u_T := fun k => match k with
  | 0 => ("FiberDesk$Closer", "effect", "LFiberDesk$Effect;", true)
  | 1 => ("FiberDesk$Closer", "input", "I", true)
  | _ => ("FiberDesk$Closer", "earlier", "LFiberDesk$Closer;", true)
def Y6 : Nat → FieldType := fun k => match k with
  | 0 => (.object "FiberDesk$Effect")
  | 1 => .int
  | _ => (.object "FiberDesk$Closer")
theorem nm6 : ∀ a, a < 3 → ∀ b, b < 3 → a ≠ b → (T6 a).2.1 ≠ (T6 b).2.1 := by decide +kernel
theorem ty6 : ∀ k, k < 3 → parseFieldDescriptor (T6 k).2.2.1 = some (Y6 k) := by decide +kernel
theorem in6 : ∀ w ∈ u_ws "FiberDesk$Closer" T6 3, w ∈ kTB := by
  have h : (u_ws "FiberDesk$Closer" T6 3) = ([419, 421, 423] : List Nat).filterMap (fun i => lw_tbl[i]?) := by decide +kernel
  have g : (u_ws "FiberDesk$Closer" T6 3).all goodWord = true := by decide +kernel
  intro w hw
  have g1 := List.all_eq_true.mp g w hw
  rw [h] at hw
  obtain ⟨i, -, hi⟩ := List.mem_filterMap.mp hw
  exact tb_in i hi g1
def T7 : u_T := fun k => match k with
  | 0 => ("FiberDesk$Cause", "kinds", "[I", true)
  | _ => ("FiberDesk$Cause", "numbers", "[I", true)
def Y7 : Nat → FieldType := fun k => match k with
  | 0 => (.array .int)
  | _ => (.array .int)
theorem nm7 : ∀ a, a < 2 → ∀ b, b < 2 → a ≠ b → (T7 a).2.1 ≠ (T7 b).2.1 := by decide +kernel
theorem ty7 : ∀ k, k < 2 → parseFieldDescriptor (T7 k).2.2.1 = some (Y7 k) := by decide +kernel
theorem in7 : ∀ w ∈ u_ws "FiberDesk$Cause" T7 2, w ∈ kTB := by
  have h : (u_ws "FiberDesk$Cause" T7 2) = ([366, 368] : List Nat).filterMap (fun i => lw_tbl[i]?) := by decide +kernel
  have g : (u_ws "FiberDesk$Cause" T7 2).all goodWord = true := by decide +kernel
  intro w hw
  have g1 := List.all_eq_true.mp g w hw
  rw [h] at hw
  obtain ⟨i, -, hi⟩ := List.mem_filterMap.mp hw
  exact tb_in i hi g1
def T8 : u_T := fun k => match k with
  | 0 => ("FiberDeskModel", "kind", "[I", true)
  | 1 => ("FiberDeskModel", "ea", "[I", true)
  | 2 => ("FiberDeskModel", "eb", "[I", true)
  | 3 => ("FiberDeskModel", "ec", "[I", true)
  | 4 => ("FiberDeskModel", "effects", "I", false)
  | 5 => ("FiberDeskModel", "state", "[I", true)
  | 6 => ("FiberDeskModel", "told", "[I", true)
  | 7 => ("FiberDeskModel", "by", "[I", true)
  | 8 => ("FiberDeskModel", "maker", "[I", true)
  | 9 => ("FiberDeskModel", "steps", "[I", true)
  | 10 => ("FiberDeskModel", "masked", "[Z", true)
  | 11 => ("FiberDeskModel", "effect", "[I", true)
  | 12 => ("FiberDeskModel", "input", "[I", true)
  | 13 => ("FiberDeskModel", "value", "[I", true)
  | 14 => ("FiberDeskModel", "isCause", "[Z", true)
  | 15 => ("FiberDeskModel", "waits", "[I", true)
  | 16 => ("FiberDeskModel", "what", "[I", true)
  | 17 => ("FiberDeskModel", "back", "[I", true)
  | 18 => ("FiberDeskModel", "came", "[I", true)
  | 19 => ("FiberDeskModel", "one", "[I", true)
  | 20 => ("FiberDeskModel", "two", "[I", true)
  | 21 => ("FiberDeskModel", "winner", "[I", true)
  | 22 => ("FiberDeskModel", "frames", "[I", true)
  | 23 => ("FiberDeskModel", "fKind", "[I", true)
  | 24 => ("FiberDeskModel", "fEffect", "[I", true)
  | 25 => ("FiberDeskModel", "fStage", "[I", true)
  | 26 => ("FiberDeskModel", "fInput", "[I", true)
  | 27 => ("FiberDeskModel", "fValue", "[I", true)
  | 28 => ("FiberDeskModel", "fMany", "[I", true)
  | 29 => ("FiberDeskModel", "closer", "[I", true)
  | 30 => ("FiberDeskModel", "closerInput", "[I", true)
  | 31 => ("FiberDeskModel", "fMask", "[Z", true)
  | 32 => ("FiberDeskModel", "fCause", "[Z", true)
  | 33 => ("FiberDeskModel", "parts", "[I", true)
  | 34 => ("FiberDeskModel", "tag", "[I", true)
  | 35 => ("FiberDeskModel", "number", "[I", true)
  | 36 => ("FiberDeskModel", "queue", "[I", true)
  | 37 => ("FiberDeskModel", "cells", "[I", true)
  | 38 => ("FiberDeskModel", "kept", "[I", true)
  | 39 => ("FiberDeskModel", "permits", "[I", true)
  | 40 => ("FiberDeskModel", "out", "[I", true)
  | 41 => ("FiberDeskModel", "isKept", "[Z", true)
  | 42 => ("FiberDeskModel", "fibers", "I", false)
  | 43 => ("FiberDeskModel", "queued", "I", false)
  | 44 => ("FiberDeskModel", "clock", "I", false)
  | 45 => ("FiberDeskModel", "allSteps", "I", false)
  | 46 => ("FiberDeskModel", "put", "I", false)
  | 47 => ("FiberDeskModel", "turns", "I", false)
  | 48 => ("FiberDeskModel", "work", "I", false)
  | 49 => ("FiberDeskModel", "turn", "I", false)
  | 50 => ("FiberDeskModel", "order", "I", false)
  | _ => ("FiberDeskModel", "started", "Z", false)
def Y8 : Nat → FieldType := fun k => match k with
  | 0 => (.array .int)
  | 1 => (.array .int)
  | 2 => (.array .int)
  | 3 => (.array .int)
  | 4 => .int
  | 5 => (.array .int)
  | 6 => (.array .int)
  | 7 => (.array .int)
  | 8 => (.array .int)
  | 9 => (.array .int)
  | 10 => (.array .boolean)
  | 11 => (.array .int)
  | 12 => (.array .int)
  | 13 => (.array .int)
  | 14 => (.array .boolean)
  | 15 => (.array .int)
  | 16 => (.array .int)
  | 17 => (.array .int)
  | 18 => (.array .int)
  | 19 => (.array .int)
  | 20 => (.array .int)
  | 21 => (.array .int)
  | 22 => (.array .int)
  | 23 => (.array .int)
  | 24 => (.array .int)
  | 25 => (.array .int)
  | 26 => (.array .int)
  | 27 => (.array .int)
  | 28 => (.array .int)
  | 29 => (.array .int)
  | 30 => (.array .int)
  | 31 => (.array .boolean)
  | 32 => (.array .boolean)
  | 33 => (.array .int)
  | 34 => (.array .int)
  | 35 => (.array .int)
  | 36 => (.array .int)
  | 37 => (.array .int)
  | 38 => (.array .int)
  | 39 => (.array .int)
  | 40 => (.array .int)
  | 41 => (.array .boolean)
  | 42 => .int
  | 43 => .int
  | 44 => .int
  | 45 => .int
  | 46 => .int
  | 47 => .int
  | 48 => .int
  | 49 => .int
  | 50 => .int
  | _ => .boolean
theorem nm8 : ∀ a, a < 52 → ∀ b, b < 52 → a ≠ b → (T8 a).2.1 ≠ (T8 b).2.1 := by decide +kernel
theorem ty8 : ∀ k, k < 52 → parseFieldDescriptor (T8 k).2.2.1 = some (Y8 k) := by decide +kernel
theorem in8 : ∀ w ∈ u_ws "FiberDeskModel" T8 52, w ∈ kTB := by
  have h : (u_ws "FiberDeskModel" T8 52) = ([681, 683, 685, 687, 689, 691, 693, 695, 697, 699, 701, 703, 705, 707, 709, 711, 713, 715, 717, 719, 721, 723, 725, 727, 729, 731, 733, 735, 737, 739, 741, 743, 745, 747, 749, 751, 753, 755, 757, 759, 761, 763, 765, 767, 769, 771, 773, 775, 777, 779, 781, 783] : List Nat).filterMap (fun i => lw_tbl[i]?) := by decide +kernel
  have g : (u_ws "FiberDeskModel" T8 52).all goodWord = true := by decide +kernel
  intro w hw
  have g1 := List.all_eq_true.mp g w hw
  rw [h] at hw
  obtain ⟨i, -, hi⟩ := List.mem_filterMap.mp hw
  exact tb_in i hi g1
abbrev kCl : List vw_C := [("FiberDesk", T0, 13), ("FiberDesk$Line", T1, 2), ("FiberDesk$Place", T2, 6), ("FiberDesk$Effect", T3, 5), ("FiberDesk$Fiber", T4, 16), ("FiberDesk$Frame", T5, 8), ("FiberDesk$Closer", T6, 3), ("FiberDesk$Cause", T7, 2), ("FiberDeskModel", T8, 52)]
def kTy : Nat → Nat → FieldType := fun c => match c with
  | 0 => Y0
  | 1 => Y1
  | 2 => Y2
  | 3 => Y3
  | 4 => Y4
  | 5 => Y5
  | 6 => Y6
  | 7 => Y7
  | 8 => Y8
  | _ => fun _ => .int
def kAty : Nat → Option FieldType := fun κ => match κ with
  | 20 => some .int
  | 21 => some .boolean
  | 22 => some (.object "FiberDesk$Effect")
  | 23 => some (.object "FiberDesk$Fiber")
  | 24 => some (.object "FiberDesk$Place")
  | _ => none
theorem kTy_ok : ∀ (ci : Nat) (r : vw_C), kCl[ci]? = some r → ∀ k, k < r.2.2 → parseFieldDescriptor (r.2.1 k).2.2.1 = some (kTy ci k) := by
  intro ci r h
  match ci, h with
  | 0, h => cases h; exact ty0
  | 1, h => cases h; exact ty1
  | 2, h => cases h; exact ty2
  | 3, h => cases h; exact ty3
  | 4, h => cases h; exact ty4
  | 5, h => cases h; exact ty5
  | 6, h => cases h; exact ty6
  | 7, h => cases h; exact ty7
  | 8, h => cases h; exact ty8
  | n + 9, h => simp [kCl] at h
theorem kNm_ok : ∀ (ci : Nat) (r : vw_C), kCl[ci]? = some r → ∀ a, a < r.2.2 → ∀ b, b < r.2.2 → a ≠ b → (r.2.1 a).2.1 ≠ (r.2.1 b).2.1 := by
  intro ci r h
  match ci, h with
  | 0, h => cases h; exact nm0
  | 1, h => cases h; exact nm1
  | 2, h => cases h; exact nm2
  | 3, h => cases h; exact nm3
  | 4, h => cases h; exact nm4
  | 5, h => cases h; exact nm5
  | 6, h => cases h; exact nm6
  | 7, h => cases h; exact nm7
  | 8, h => cases h; exact nm8
  | n + 9, h => simp [kCl] at h
theorem kIn_ok : ∀ (ci : Nat) (r : vw_C), kCl[ci]? = some r → ∀ w ∈ u_ws r.1 r.2.1 r.2.2, w ∈ kTB := by
  intro ci r h
  match ci, h with
  | 0, h => cases h; exact in0
  | 1, h => cases h; exact in1
  | 2, h => cases h; exact in2
  | 3, h => cases h; exact in3
  | 4, h => cases h; exact in4
  | 5, h => cases h; exact in5
  | 6, h => cases h; exact in6
  | 7, h => cases h; exact in7
  | 8, h => cases h; exact in8
  | n + 9, h => simp [kCl] at h
abbrev MI : Type := MethodName × ByteArray × Nat × Option FieldType
def m_D_init : MI := (⟨"FiberDesk", "<init>", "()V"⟩, prog_1_method_1_code, 2, (Option.none : Option Jvm.ClassFile.FieldType))
def m_D_effect : MI := (⟨"FiberDesk", "effect", "(IIII)I"⟩, prog_1_method_2_code, 6, (Option.some Jvm.ClassFile.FieldType.int))
def m_D_start : MI := (⟨"FiberDesk", "start", "(II)Z"⟩, prog_1_method_3_code, 4, (Option.some Jvm.ClassFile.FieldType.boolean))
def m_D_run : MI := (⟨"FiberDesk", "run", "(I)I"⟩, prog_1_method_4_code, 3, (Option.some Jvm.ClassFile.FieldType.int))
def m_D_interrupt : MI := (⟨"FiberDesk", "interrupt", "(I)Z"⟩, prog_1_method_5_code, 3, (Option.some Jvm.ClassFile.FieldType.boolean))
def m_D_keep : MI := (⟨"FiberDesk", "keep", "(II)Z"⟩, prog_1_method_6_code, 4, (Option.some Jvm.ClassFile.FieldType.boolean))
def m_D_fiber : MI := (⟨"FiberDesk", "fiber", "(II)I"⟩, prog_1_method_7_code, 4, (Option.some Jvm.ClassFile.FieldType.int))
def m_D_cause : MI := (⟨"FiberDesk", "cause", "(III)I"⟩, prog_1_method_8_code, 5, (Option.some Jvm.ClassFile.FieldType.int))
def m_D_queued : MI := (⟨"FiberDesk", "queued", "(I)I"⟩, prog_1_method_9_code, 2, (Option.some Jvm.ClassFile.FieldType.int))
def m_D_printed : MI := (⟨"FiberDesk", "printed", "(I)I"⟩, prog_1_method_10_code, 2, (Option.some Jvm.ClassFile.FieldType.int))
def m_D_cell : MI := (⟨"FiberDesk", "cell", "(II)I"⟩, prog_1_method_11_code, 4, (Option.some Jvm.ClassFile.FieldType.int))
def m_D_count : MI := (⟨"FiberDesk", "count", "(I)I"⟩, prog_1_method_12_code, 2, (Option.some Jvm.ClassFile.FieldType.int))
def m_D_isWellFormed : MI := (⟨"FiberDesk", "isWellFormed", "(IIII)Z"⟩, prog_1_method_13_code, 6, (Option.some Jvm.ClassFile.FieldType.boolean))
def m_D_isAtPlace : MI := (⟨"FiberDesk", "isAtPlace", "(I)Z"⟩, prog_1_method_14_code, 1, (Option.some Jvm.ClassFile.FieldType.boolean))
def m_D_effectAt : MI := (⟨"FiberDesk", "effectAt", "(I)LFiberDesk$Effect;"⟩, prog_1_method_15_code, 2, (Option.some (Jvm.ClassFile.FieldType.object "FiberDesk$Effect")))
def m_D_fiberAt : MI := (⟨"FiberDesk", "fiberAt", "(I)LFiberDesk$Fiber;"⟩, prog_1_method_16_code, 2, (Option.some (Jvm.ClassFile.FieldType.object "FiberDesk$Fiber")))
def m_D_placeAt : MI := (⟨"FiberDesk", "placeAt", "(I)LFiberDesk$Place;"⟩, prog_1_method_17_code, 2, (Option.some (Jvm.ClassFile.FieldType.object "FiberDesk$Place")))
def m_D_standing : MI := (⟨"FiberDesk", "standing", "()I"⟩, prog_1_method_18_code, 4, (Option.some Jvm.ClassFile.FieldType.int))
def m_D_clearAll : MI := (⟨"FiberDesk", "clearAll", "()V"⟩, prog_1_method_19_code, 3, (Option.none : Option Jvm.ClassFile.FieldType))
def m_D_hasTurn : MI := (⟨"FiberDesk", "hasTurn", "()Z"⟩, prog_1_method_20_code, 1, (Option.some Jvm.ClassFile.FieldType.boolean))
def m_D_work : MI := (⟨"FiberDesk", "work", "()V"⟩, prog_1_method_21_code, 2, (Option.none : Option Jvm.ClassFile.FieldType))
def m_D_wakeSleepers : MI := (⟨"FiberDesk", "wakeSleepers", "()V"⟩, prog_1_method_22_code, 5, (Option.none : Option Jvm.ClassFile.FieldType))
def m_D_goOn : MI := (⟨"FiberDesk", "goOn", "(LFiberDesk$Fiber;)V"⟩, prog_1_method_23_code, 2, (Option.none : Option Jvm.ClassFile.FieldType))
def m_D_begin : MI := (⟨"FiberDesk", "begin", "(LFiberDesk$Fiber;LFiberDesk$Effect;I)V"⟩, prog_1_method_24_code, 4, (Option.none : Option Jvm.ClassFile.FieldType))
def m_D_put : MI := (⟨"FiberDesk", "put", "(I)V"⟩, prog_1_method_25_code, 2, (Option.none : Option Jvm.ClassFile.FieldType))
def m_D_beginFork : MI := (⟨"FiberDesk", "beginFork", "(LFiberDesk$Fiber;LFiberDesk$Effect;I)V"⟩, prog_1_method_26_code, 4, (Option.none : Option Jvm.ClassFile.FieldType))
def m_D_makeFiber : MI := (⟨"FiberDesk", "makeFiber", "(LFiberDesk$Effect;II)V"⟩, prog_1_method_27_code, 6, (Option.none : Option Jvm.ClassFile.FieldType))
def m_D_beginJoin : MI := (⟨"FiberDesk", "beginJoin", "(LFiberDesk$Fiber;I)V"⟩, prog_1_method_28_code, 4, (Option.none : Option Jvm.ClassFile.FieldType))
def m_D_beginHalt : MI := (⟨"FiberDesk", "beginHalt", "(LFiberDesk$Fiber;I)V"⟩, prog_1_method_29_code, 4, (Option.none : Option Jvm.ClassFile.FieldType))
def m_D_beginRace : MI := (⟨"FiberDesk", "beginRace", "(LFiberDesk$Fiber;LFiberDesk$Effect;I)V"⟩, prog_1_method_30_code, 4, (Option.none : Option Jvm.ClassFile.FieldType))
def m_D_beginSleep : MI := (⟨"FiberDesk", "beginSleep", "(LFiberDesk$Fiber;II)V"⟩, prog_1_method_31_code, 4, (Option.none : Option Jvm.ClassFile.FieldType))
def m_D_beginAtPlace : MI := (⟨"FiberDesk", "beginAtPlace", "(LFiberDesk$Fiber;LFiberDesk$Effect;I)V"⟩, prog_1_method_32_code, 5, (Option.none : Option Jvm.ClassFile.FieldType))
def m_D_beginAwait : MI := (⟨"FiberDesk", "beginAwait", "(LFiberDesk$Fiber;LFiberDesk$Place;I)V"⟩, prog_1_method_33_code, 4, (Option.none : Option Jvm.ClassFile.FieldType))
def m_D_beginTake : MI := (⟨"FiberDesk", "beginTake", "(LFiberDesk$Fiber;LFiberDesk$Place;I)V"⟩, prog_1_method_34_code, 4, (Option.none : Option Jvm.ClassFile.FieldType))
def m_D_leaveGate : MI := (⟨"FiberDesk", "leaveGate", "(LFiberDesk$Place;)V"⟩, prog_1_method_35_code, 3, (Option.none : Option Jvm.ClassFile.FieldType))
def m_D_keepPromise : MI := (⟨"FiberDesk", "keepPromise", "(LFiberDesk$Place;I)Z"⟩, prog_1_method_36_code, 5, (Option.some Jvm.ClassFile.FieldType.boolean))
def m_D_sendInterrupt : MI := (⟨"FiberDesk", "sendInterrupt", "(LFiberDesk$Fiber;I)V"⟩, prog_1_method_37_code, 3, (Option.none : Option Jvm.ClassFile.FieldType))
def m_D_leaveLine : MI := (⟨"FiberDesk", "leaveLine", "(LFiberDesk$Fiber;)V"⟩, prog_1_method_38_code, 3, (Option.none : Option Jvm.ClassFile.FieldType))
def m_D_end : MI := (⟨"FiberDesk", "end", "(LFiberDesk$Fiber;)V"⟩, prog_1_method_39_code, 4, (Option.none : Option Jvm.ClassFile.FieldType))
def m_D_tellEnd : MI := (⟨"FiberDesk", "tellEnd", "(LFiberDesk$Fiber;LFiberDesk$Fiber;)V"⟩, prog_1_method_40_code, 3, (Option.none : Option Jvm.ClassFile.FieldType))
def m_D_tellRace : MI := (⟨"FiberDesk", "tellRace", "(LFiberDesk$Fiber;LFiberDesk$Fiber;)V"⟩, prog_1_method_41_code, 6, (Option.none : Option Jvm.ClassFile.FieldType))
def m_D_giveRaceExit : MI := (⟨"FiberDesk", "giveRaceExit", "(LFiberDesk$Fiber;LFiberDesk$Fiber;LFiberDesk$Fiber;LFiberDesk$Fiber;)V"⟩, prog_1_method_42_code, 5, (Option.none : Option Jvm.ClassFile.FieldType))
def m_D_joined : MI := (⟨"FiberDesk", "joined", "(ILFiberDesk$Cause;LFiberDesk$Cause;)LFiberDesk$Cause;"⟩, prog_1_method_43_code, 4, (Option.some (Jvm.ClassFile.FieldType.object "FiberDesk$Cause")))
def m_R_init : MI := (⟨"FiberDeskModel", "<init>", "()V"⟩, prog_10_method_1_code, 1, (Option.none : Option Jvm.ClassFile.FieldType))
def m_R_in : MI := (⟨"FiberDeskModel", "in", "(III)Z"⟩, prog_10_method_2_code, 3, (Option.some Jvm.ClassFile.FieldType.boolean))
def m_R_isEffect : MI := (⟨"FiberDeskModel", "isEffect", "(I)Z"⟩, prog_10_method_3_code, 2, (Option.some Jvm.ClassFile.FieldType.boolean))
def m_R_needs : MI := (⟨"FiberDeskModel", "needs", "(I)I"⟩, prog_10_method_4_code, 1, (Option.some Jvm.ClassFile.FieldType.int))
def m_R_effect : MI := (⟨"FiberDeskModel", "effect", "(IIII)I"⟩, prog_10_method_5_code, 6, (Option.some Jvm.ClassFile.FieldType.int))
def m_R_make : MI := (⟨"FiberDeskModel", "make", "(III)I"⟩, prog_10_method_6_code, 5, (Option.some Jvm.ClassFile.FieldType.int))
def m_R_start : MI := (⟨"FiberDeskModel", "start", "(II)Z"⟩, prog_10_method_7_code, 4, (Option.some Jvm.ClassFile.FieldType.boolean))
def m_R_give : MI := (⟨"FiberDeskModel", "give", "(II)V"⟩, prog_10_method_8_code, 3, (Option.none : Option Jvm.ClassFile.FieldType))
def m_R_single : MI := (⟨"FiberDeskModel", "single", "(III)V"⟩, prog_10_method_9_code, 4, (Option.none : Option Jvm.ClassFile.FieldType))
def m_R_fail : MI := (⟨"FiberDeskModel", "fail", "(III)V"⟩, prog_10_method_10_code, 4, (Option.none : Option Jvm.ClassFile.FieldType))
def m_R_copy : MI := (⟨"FiberDeskModel", "copy", "(II)V"⟩, prog_10_method_11_code, 4, (Option.none : Option Jvm.ClassFile.FieldType))
def m_R_join : MI := (⟨"FiberDeskModel", "join", "(III)V"⟩, prog_10_method_12_code, 7, (Option.none : Option Jvm.ClassFile.FieldType))
def m_R_wake : MI := (⟨"FiberDeskModel", "wake", "(I)V"⟩, prog_10_method_13_code, 2, (Option.none : Option Jvm.ClassFile.FieldType))
def m_R_rest : MI := (⟨"FiberDeskModel", "rest", "(IIII)V"⟩, prog_10_method_14_code, 5, (Option.none : Option Jvm.ClassFile.FieldType))
def m_R_strike : MI := (⟨"FiberDeskModel", "strike", "(II)V"⟩, prog_10_method_15_code, 3, (Option.none : Option Jvm.ClassFile.FieldType))
def m_R_interrupt : MI := (⟨"FiberDeskModel", "interrupt", "(I)Z"⟩, prog_10_method_16_code, 2, (Option.some Jvm.ClassFile.FieldType.boolean))
def m_R_firstFor : MI := (⟨"FiberDeskModel", "firstFor", "(II)I"⟩, prog_10_method_17_code, 5, (Option.some Jvm.ClassFile.FieldType.int))
def m_R_keeps : MI := (⟨"FiberDeskModel", "keeps", "(II)Z"⟩, prog_10_method_18_code, 4, (Option.some Jvm.ClassFile.FieldType.boolean))
def m_R_keep : MI := (⟨"FiberDeskModel", "keep", "(II)Z"⟩, prog_10_method_19_code, 3, (Option.some Jvm.ClassFile.FieldType.boolean))
def m_R_run : MI := (⟨"FiberDeskModel", "run", "(I)I"⟩, prog_10_method_20_code, 3, (Option.some Jvm.ClassFile.FieldType.int))
def m_R_begin : MI := (⟨"FiberDeskModel", "begin", "()V"⟩, prog_10_method_21_code, 3, (Option.none : Option Jvm.ClassFile.FieldType))
def m_R_step : MI := (⟨"FiberDeskModel", "step", "()V"⟩, prog_10_method_22_code, 2, (Option.none : Option Jvm.ClassFile.FieldType))
def m_R_frame : MI := (⟨"FiberDeskModel", "frame", "(III)V"⟩, prog_10_method_23_code, 5, (Option.none : Option Jvm.ClassFile.FieldType))
def m_R_does : MI := (⟨"FiberDeskModel", "does", "(III)V"⟩, prog_10_method_24_code, 4, (Option.none : Option Jvm.ClassFile.FieldType))
def m_R_act : MI := (⟨"FiberDeskModel", "act", "(III)V"⟩, prog_10_method_25_code, 7, (Option.none : Option Jvm.ClassFile.FieldType))
def m_R_others : MI := (⟨"FiberDeskModel", "others", "(IIII)V"⟩, prog_10_method_26_code, 7, (Option.none : Option Jvm.ClassFile.FieldType))
def m_R_hand : MI := (⟨"FiberDeskModel", "hand", "(II)V"⟩, prog_10_method_27_code, 3, (Option.none : Option Jvm.ClassFile.FieldType))
def m_R_register : MI := (⟨"FiberDeskModel", "register", "(III)V"⟩, prog_10_method_28_code, 5, (Option.none : Option Jvm.ClassFile.FieldType))
def m_R_shared : MI := (⟨"FiberDeskModel", "shared", "(IIII)V"⟩, prog_10_method_29_code, 7, (Option.none : Option Jvm.ClassFile.FieldType))
def m_R_comes : MI := (⟨"FiberDeskModel", "comes", "(II)V"⟩, prog_10_method_30_code, 6, (Option.none : Option Jvm.ClassFile.FieldType))
def m_R_closes : MI := (⟨"FiberDeskModel", "closes", "(II)V"⟩, prog_10_method_31_code, 3, (Option.none : Option Jvm.ClassFile.FieldType))
def m_R_close : MI := (⟨"FiberDeskModel", "close", "(II)V"⟩, prog_10_method_32_code, 4, (Option.none : Option Jvm.ClassFile.FieldType))
def m_R_ends : MI := (⟨"FiberDeskModel", "ends", "(I)V"⟩, prog_10_method_33_code, 3, (Option.none : Option Jvm.ClassFile.FieldType))
def m_R_hears : MI := (⟨"FiberDeskModel", "hears", "(II)V"⟩, prog_10_method_34_code, 4, (Option.none : Option Jvm.ClassFile.FieldType))
def m_R_stands : MI := (⟨"FiberDeskModel", "stands", "()I"⟩, prog_10_method_35_code, 4, (Option.some Jvm.ClassFile.FieldType.int))
def m_R_fiber : MI := (⟨"FiberDeskModel", "fiber", "(II)I"⟩, prog_10_method_36_code, 4, (Option.some Jvm.ClassFile.FieldType.int))
def m_R_cause : MI := (⟨"FiberDeskModel", "cause", "(III)I"⟩, prog_10_method_37_code, 4, (Option.some Jvm.ClassFile.FieldType.int))
def m_R_queued : MI := (⟨"FiberDeskModel", "queued", "(I)I"⟩, prog_10_method_38_code, 2, (Option.some Jvm.ClassFile.FieldType.int))
def m_R_printed : MI := (⟨"FiberDeskModel", "printed", "(I)I"⟩, prog_10_method_39_code, 2, (Option.some Jvm.ClassFile.FieldType.int))
def m_R_waiting : MI := (⟨"FiberDeskModel", "waiting", "(II)I"⟩, prog_10_method_40_code, 5, (Option.some Jvm.ClassFile.FieldType.int))
def m_R_cell : MI := (⟨"FiberDeskModel", "cell", "(II)I"⟩, prog_10_method_41_code, 3, (Option.some Jvm.ClassFile.FieldType.int))
def m_R_count : MI := (⟨"FiberDeskModel", "count", "(I)I"⟩, prog_10_method_42_code, 2, (Option.some Jvm.ClassFile.FieldType.int))
def m_C_one : MI := (⟨"FiberDesk$Cause", "<init>", "(II)V"⟩, prog_2_method_1_code, 3, (Option.none : Option Jvm.ClassFile.FieldType))
def m_C_two : MI := (⟨"FiberDesk$Cause", "<init>", "(ILFiberDesk$Cause;LFiberDesk$Cause;)V"⟩, prog_2_method_2_code, 6, (Option.none : Option Jvm.ClassFile.FieldType))
def m_C_isFailAlone : MI := (⟨"FiberDesk$Cause", "isFailAlone", "()Z"⟩, prog_2_method_3_code, 1, (Option.some Jvm.ClassFile.FieldType.boolean))
def m_K_init : MI := (⟨"FiberDesk$Closer", "<init>", "(LFiberDesk$Effect;ILFiberDesk$Closer;)V"⟩, prog_3_method_1_code, 4, (Option.none : Option Jvm.ClassFile.FieldType))
def m_E_init : MI := (⟨"FiberDesk$Effect", "<init>", "(IILFiberDesk$Effect;LFiberDesk$Effect;LFiberDesk$Effect;)V"⟩, prog_4_method_1_code, 6, (Option.none : Option Jvm.ClassFile.FieldType))
def m_F_init : MI := (⟨"FiberDesk$Fiber", "<init>", "(II)V"⟩, prog_5_method_1_code, 3, (Option.none : Option Jvm.ClassFile.FieldType))
def m_F_state : MI := (⟨"FiberDesk$Fiber", "state", "()I"⟩, prog_5_method_2_code, 1, (Option.some Jvm.ClassFile.FieldType.int))
def m_F_perform : MI := (⟨"FiberDesk$Fiber", "perform", "(LFiberDesk$Effect;I)V"⟩, prog_5_method_3_code, 3, (Option.none : Option Jvm.ClassFile.FieldType))
def m_F_giveExit : MI := (⟨"FiberDesk$Fiber", "giveExit", "(ILFiberDesk$Cause;)V"⟩, prog_5_method_4_code, 3, (Option.none : Option Jvm.ClassFile.FieldType))
def m_F_giveValue : MI := (⟨"FiberDesk$Fiber", "giveValue", "(I)V"⟩, prog_5_method_5_code, 2, (Option.none : Option Jvm.ClassFile.FieldType))
def m_F_giveCause : MI := (⟨"FiberDesk$Fiber", "giveCause", "(LFiberDesk$Cause;)V"⟩, prog_5_method_6_code, 2, (Option.none : Option Jvm.ClassFile.FieldType))
def m_F_die : MI := (⟨"FiberDesk$Fiber", "die", "(I)V"⟩, prog_5_method_7_code, 2, (Option.none : Option Jvm.ClassFile.FieldType))
def m_F_waitFor : MI := (⟨"FiberDesk$Fiber", "waitFor", "(II)V"⟩, prog_5_method_8_code, 3, (Option.none : Option Jvm.ClassFile.FieldType))
def m_F_beginFramed : MI := (⟨"FiberDesk$Fiber", "beginFramed", "(LFiberDesk$Effect;I)V"⟩, prog_5_method_9_code, 4, (Option.none : Option Jvm.ClassFile.FieldType))
def m_F_maskedOutsideMask : MI := (⟨"FiberDesk$Fiber", "maskedOutsideMask", "()Z"⟩, prog_5_method_10_code, 2, (Option.some Jvm.ClassFile.FieldType.boolean))
def m_F_register : MI := (⟨"FiberDesk$Fiber", "register", "(LFiberDesk$Effect;I)V"⟩, prog_5_method_11_code, 4, (Option.none : Option Jvm.ClassFile.FieldType))
def m_F_openScope : MI := (⟨"FiberDesk$Fiber", "openScope", "()LFiberDesk$Frame;"⟩, prog_5_method_12_code, 2, (Option.some (Jvm.ClassFile.FieldType.object "FiberDesk$Frame")))
def m_F_comeTo : MI := (⟨"FiberDesk$Fiber", "comeTo", "(LFiberDesk$Frame;)V"⟩, prog_5_method_13_code, 3, (Option.none : Option Jvm.ClassFile.FieldType))
def m_F_follow : MI := (⟨"FiberDesk$Fiber", "follow", "(LFiberDesk$Effect;)V"⟩, prog_5_method_14_code, 2, (Option.none : Option Jvm.ClassFile.FieldType))
def m_F_close : MI := (⟨"FiberDesk$Fiber", "close", "(LFiberDesk$Frame;)V"⟩, prog_5_method_15_code, 3, (Option.none : Option Jvm.ClassFile.FieldType))
def m_F_drop : MI := (⟨"FiberDesk$Fiber", "drop", "(LFiberDesk$Frame;)V"⟩, prog_5_method_16_code, 2, (Option.none : Option Jvm.ClassFile.FieldType))
def m_Q_init : MI := (⟨"FiberDesk$Frame", "<init>", "(LFiberDesk$Effect;ZLFiberDesk$Frame;)V"⟩, prog_6_method_1_code, 4, (Option.none : Option Jvm.ClassFile.FieldType))
def m_Q_hold : MI := (⟨"FiberDesk$Frame", "hold", "(LFiberDesk$Effect;I)V"⟩, prog_6_method_2_code, 3, (Option.none : Option Jvm.ClassFile.FieldType))
def m_L_init : MI := (⟨"FiberDesk$Line", "<init>", "()V"⟩, prog_7_method_1_code, 1, (Option.none : Option Jvm.ClassFile.FieldType))
def m_L_clear : MI := (⟨"FiberDesk$Line", "clear", "()V"⟩, prog_7_method_2_code, 1, (Option.none : Option Jvm.ClassFile.FieldType))
def m_L_add : MI := (⟨"FiberDesk$Line", "add", "(I)V"⟩, prog_7_method_3_code, 2, (Option.none : Option Jvm.ClassFile.FieldType))
def m_L_at : MI := (⟨"FiberDesk$Line", "at", "(I)I"⟩, prog_7_method_4_code, 2, (Option.some Jvm.ClassFile.FieldType.int))
def m_L_takeFirst : MI := (⟨"FiberDesk$Line", "takeFirst", "()I"⟩, prog_7_method_5_code, 2, (Option.some Jvm.ClassFile.FieldType.int))
def m_L_remove : MI := (⟨"FiberDesk$Line", "remove", "(I)V"⟩, prog_7_method_6_code, 4, (Option.none : Option Jvm.ClassFile.FieldType))
def m_P_init : MI := (⟨"FiberDesk$Place", "<init>", "()V"⟩, prog_8_method_1_code, 1, (Option.none : Option Jvm.ClassFile.FieldType))
def m_P_clear : MI := (⟨"FiberDesk$Place", "clear", "()V"⟩, prog_8_method_2_code, 1, (Option.none : Option Jvm.ClassFile.FieldType))
def m_W_law : MI := (x, code, 4, some .boolean)
end
section
theorem d_D_init_0 : decode m_D_init.2.1 0 = .ok (.aload_n 0, 1) := by decide +kernel
theorem d_D_init_1 : decode m_D_init.2.1 1 = .ok (.invokespecial 1, 3) := by decide +kernel
theorem d_D_init_4 : decode m_D_init.2.1 4 = .ok (.aload_n 0, 1) := by decide +kernel
theorem d_D_init_5 : decode m_D_init.2.1 5 = .ok (.bipush 40, 2) := by decide +kernel
theorem d_D_init_7 : decode m_D_init.2.1 7 = .ok (.anewarray 9, 3) := by decide +kernel
theorem d_D_init_10 : decode m_D_init.2.1 10 = .ok (.putfield 11, 3) := by decide +kernel
theorem d_D_init_13 : decode m_D_init.2.1 13 = .ok (.aload_n 0, 1) := by decide +kernel
theorem d_D_init_14 : decode m_D_init.2.1 14 = .ok (.iconst 0, 1) := by decide +kernel
theorem d_D_init_15 : decode m_D_init.2.1 15 = .ok (.putfield 15, 3) := by decide +kernel
theorem d_D_init_18 : decode m_D_init.2.1 18 = .ok (.aload_n 0, 1) := by decide +kernel
theorem d_D_init_19 : decode m_D_init.2.1 19 = .ok (.bipush 10, 2) := by decide +kernel
theorem d_D_init_21 : decode m_D_init.2.1 21 = .ok (.anewarray 19, 3) := by decide +kernel
theorem d_D_init_24 : decode m_D_init.2.1 24 = .ok (.putfield 21, 3) := by decide +kernel
theorem d_D_init_27 : decode m_D_init.2.1 27 = .ok (.aload_n 0, 1) := by decide +kernel
theorem d_D_init_28 : decode m_D_init.2.1 28 = .ok (.iconst 0, 1) := by decide +kernel
theorem d_D_init_29 : decode m_D_init.2.1 29 = .ok (.putfield 25, 3) := by decide +kernel
theorem d_D_init_32 : decode m_D_init.2.1 32 = .ok (.aload_n 0, 1) := by decide +kernel
theorem d_D_init_33 : decode m_D_init.2.1 33 = .ok (.new 28, 3) := by decide +kernel
theorem d_D_init_36 : decode m_D_init.2.1 36 = .ok (.dup, 1) := by decide +kernel
theorem d_D_init_37 : decode m_D_init.2.1 37 = .ok (.invokespecial 30, 3) := by decide +kernel
theorem d_D_init_40 : decode m_D_init.2.1 40 = .ok (.putfield 31, 3) := by decide +kernel
theorem d_D_init_43 : decode m_D_init.2.1 43 = .ok (.aload_n 0, 1) := by decide +kernel
theorem d_D_init_44 : decode m_D_init.2.1 44 = .ok (.iconst 4, 1) := by decide +kernel
theorem d_D_init_45 : decode m_D_init.2.1 45 = .ok (.anewarray 35, 3) := by decide +kernel
theorem d_D_init_48 : decode m_D_init.2.1 48 = .ok (.putfield 37, 3) := by decide +kernel
theorem d_D_init_51 : decode m_D_init.2.1 51 = .ok (.aload_n 0, 1) := by decide +kernel
theorem d_D_init_52 : decode m_D_init.2.1 52 = .ok (.bipush 24, 2) := by decide +kernel
theorem d_D_init_54 : decode m_D_init.2.1 54 = .ok (.newarray .int, 2) := by decide +kernel
theorem d_D_init_56 : decode m_D_init.2.1 56 = .ok (.putfield 41, 3) := by decide +kernel
theorem d_D_init_59 : decode m_D_init.2.1 59 = .ok (.aload_n 0, 1) := by decide +kernel
theorem d_D_init_60 : decode m_D_init.2.1 60 = .ok (.iconst 0, 1) := by decide +kernel
theorem d_D_init_61 : decode m_D_init.2.1 61 = .ok (.putfield 45, 3) := by decide +kernel
theorem d_D_init_64 : decode m_D_init.2.1 64 = .ok (.aload_n 0, 1) := by decide +kernel
theorem d_D_init_65 : decode m_D_init.2.1 65 = .ok (.iconst 0, 1) := by decide +kernel
theorem d_D_init_66 : decode m_D_init.2.1 66 = .ok (.putfield 48, 3) := by decide +kernel
theorem d_D_init_69 : decode m_D_init.2.1 69 = .ok (.aload_n 0, 1) := by decide +kernel
theorem d_D_init_70 : decode m_D_init.2.1 70 = .ok (.iconst 0, 1) := by decide +kernel
theorem d_D_init_71 : decode m_D_init.2.1 71 = .ok (.putfield 51, 3) := by decide +kernel
theorem d_D_init_74 : decode m_D_init.2.1 74 = .ok (.aload_n 0, 1) := by decide +kernel
theorem d_D_init_75 : decode m_D_init.2.1 75 = .ok (.iconst 0, 1) := by decide +kernel
theorem d_D_init_76 : decode m_D_init.2.1 76 = .ok (.putfield 54, 3) := by decide +kernel
theorem d_D_init_79 : decode m_D_init.2.1 79 = .ok (.aload_n 0, 1) := by decide +kernel
theorem d_D_init_80 : decode m_D_init.2.1 80 = .ok (.aconst_null, 1) := by decide +kernel
theorem d_D_init_81 : decode m_D_init.2.1 81 = .ok (.putfield 57, 3) := by decide +kernel
theorem d_D_init_84 : decode m_D_init.2.1 84 = .ok (.aload_n 0, 1) := by decide +kernel
theorem d_D_init_85 : decode m_D_init.2.1 85 = .ok (.iconst 0, 1) := by decide +kernel
theorem d_D_init_86 : decode m_D_init.2.1 86 = .ok (.putfield 61, 3) := by decide +kernel
theorem d_D_init_89 : decode m_D_init.2.1 89 = .ok (.iconst 0, 1) := by decide +kernel
theorem d_D_init_90 : decode m_D_init.2.1 90 = .ok (.istore_n 1, 1) := by decide +kernel
theorem d_D_init_91 : decode m_D_init.2.1 91 = .ok (.iload_n 1, 1) := by decide +kernel
theorem d_D_init_92 : decode m_D_init.2.1 92 = .ok (.iconst 4, 1) := by decide +kernel
theorem d_D_init_93 : decode m_D_init.2.1 93 = .ok (.if_icmp .ge 22, 3) := by decide +kernel
theorem d_D_init_96 : decode m_D_init.2.1 96 = .ok (.aload_n 0, 1) := by decide +kernel
theorem d_D_init_97 : decode m_D_init.2.1 97 = .ok (.getfield 37, 3) := by decide +kernel
theorem d_D_init_100 : decode m_D_init.2.1 100 = .ok (.iload_n 1, 1) := by decide +kernel
theorem d_D_init_101 : decode m_D_init.2.1 101 = .ok (.new 35, 3) := by decide +kernel
theorem d_D_init_104 : decode m_D_init.2.1 104 = .ok (.dup, 1) := by decide +kernel
theorem d_D_init_105 : decode m_D_init.2.1 105 = .ok (.invokespecial 64, 3) := by decide +kernel
theorem d_D_init_108 : decode m_D_init.2.1 108 = .ok (.aastore, 1) := by decide +kernel
theorem d_D_init_109 : decode m_D_init.2.1 109 = .ok (.iinc 1 1, 3) := by decide +kernel
theorem d_D_init_112 : decode m_D_init.2.1 112 = .ok (.goto (-21), 3) := by decide +kernel
theorem d_D_init_115 : decode m_D_init.2.1 115 = .ok (.return_, 1) := by decide +kernel
theorem d_D_effect_0 : decode m_D_effect.2.1 0 = .ok (.aload_n 0, 1) := by decide +kernel
theorem d_D_effect_1 : decode m_D_effect.2.1 1 = .ok (.iload_n 1, 1) := by decide +kernel
theorem d_D_effect_2 : decode m_D_effect.2.1 2 = .ok (.iload_n 2, 1) := by decide +kernel
theorem d_D_effect_3 : decode m_D_effect.2.1 3 = .ok (.iload_n 3, 1) := by decide +kernel
theorem d_D_effect_4 : decode m_D_effect.2.1 4 = .ok (.iload 4, 2) := by decide +kernel
theorem d_D_effect_6 : decode m_D_effect.2.1 6 = .ok (.invokevirtual 65, 3) := by decide +kernel
theorem d_D_effect_9 : decode m_D_effect.2.1 9 = .ok (.ifCond .ne 5, 3) := by decide +kernel
theorem d_D_effect_12 : decode m_D_effect.2.1 12 = .ok (.iconst (-1), 1) := by decide +kernel
theorem d_D_effect_13 : decode m_D_effect.2.1 13 = .ok (.ireturn, 1) := by decide +kernel
theorem d_D_effect_14 : decode m_D_effect.2.1 14 = .ok (.aload_n 0, 1) := by decide +kernel
theorem d_D_effect_15 : decode m_D_effect.2.1 15 = .ok (.getfield 15, 3) := by decide +kernel
theorem d_D_effect_18 : decode m_D_effect.2.1 18 = .ok (.bipush 40, 2) := by decide +kernel
theorem d_D_effect_20 : decode m_D_effect.2.1 20 = .ok (.if_icmp .lt 6, 3) := by decide +kernel
theorem d_D_effect_23 : decode m_D_effect.2.1 23 = .ok (.bipush (-2), 2) := by decide +kernel
theorem d_D_effect_25 : decode m_D_effect.2.1 25 = .ok (.ireturn, 1) := by decide +kernel
theorem d_D_effect_26 : decode m_D_effect.2.1 26 = .ok (.aload_n 0, 1) := by decide +kernel
theorem d_D_effect_27 : decode m_D_effect.2.1 27 = .ok (.getfield 15, 3) := by decide +kernel
theorem d_D_effect_30 : decode m_D_effect.2.1 30 = .ok (.istore 5, 2) := by decide +kernel
theorem d_D_effect_32 : decode m_D_effect.2.1 32 = .ok (.aload_n 0, 1) := by decide +kernel
theorem d_D_effect_33 : decode m_D_effect.2.1 33 = .ok (.getfield 11, 3) := by decide +kernel
theorem d_D_effect_36 : decode m_D_effect.2.1 36 = .ok (.iload 5, 2) := by decide +kernel
theorem d_D_effect_38 : decode m_D_effect.2.1 38 = .ok (.new 9, 3) := by decide +kernel
theorem d_D_effect_41 : decode m_D_effect.2.1 41 = .ok (.dup, 1) := by decide +kernel
theorem d_D_effect_42 : decode m_D_effect.2.1 42 = .ok (.iload_n 1, 1) := by decide +kernel
theorem d_D_effect_43 : decode m_D_effect.2.1 43 = .ok (.iload_n 2, 1) := by decide +kernel
theorem d_D_effect_44 : decode m_D_effect.2.1 44 = .ok (.aload_n 0, 1) := by decide +kernel
theorem d_D_effect_45 : decode m_D_effect.2.1 45 = .ok (.iload_n 2, 1) := by decide +kernel
theorem d_D_effect_46 : decode m_D_effect.2.1 46 = .ok (.invokevirtual 69, 3) := by decide +kernel
theorem d_D_effect_49 : decode m_D_effect.2.1 49 = .ok (.aload_n 0, 1) := by decide +kernel
theorem d_D_effect_50 : decode m_D_effect.2.1 50 = .ok (.iload_n 3, 1) := by decide +kernel
theorem d_D_effect_51 : decode m_D_effect.2.1 51 = .ok (.invokevirtual 69, 3) := by decide +kernel
theorem d_D_effect_54 : decode m_D_effect.2.1 54 = .ok (.aload_n 0, 1) := by decide +kernel
theorem d_D_effect_55 : decode m_D_effect.2.1 55 = .ok (.iload 4, 2) := by decide +kernel
theorem d_D_effect_57 : decode m_D_effect.2.1 57 = .ok (.invokevirtual 69, 3) := by decide +kernel
theorem d_D_effect_60 : decode m_D_effect.2.1 60 = .ok (.invokespecial 73, 3) := by decide +kernel
theorem d_D_effect_63 : decode m_D_effect.2.1 63 = .ok (.aastore, 1) := by decide +kernel
theorem d_D_effect_64 : decode m_D_effect.2.1 64 = .ok (.aload_n 0, 1) := by decide +kernel
theorem d_D_effect_65 : decode m_D_effect.2.1 65 = .ok (.dup, 1) := by decide +kernel
theorem d_D_effect_66 : decode m_D_effect.2.1 66 = .ok (.getfield 15, 3) := by decide +kernel
theorem d_D_effect_69 : decode m_D_effect.2.1 69 = .ok (.iconst 1, 1) := by decide +kernel
theorem d_D_effect_70 : decode m_D_effect.2.1 70 = .ok (.iadd, 1) := by decide +kernel
theorem d_D_effect_71 : decode m_D_effect.2.1 71 = .ok (.putfield 15, 3) := by decide +kernel
theorem d_D_effect_74 : decode m_D_effect.2.1 74 = .ok (.iload 5, 2) := by decide +kernel
theorem d_D_effect_76 : decode m_D_effect.2.1 76 = .ok (.ireturn, 1) := by decide +kernel
theorem d_D_start_0 : decode m_D_start.2.1 0 = .ok (.aload_n 0, 1) := by decide +kernel
theorem d_D_start_1 : decode m_D_start.2.1 1 = .ok (.iload_n 1, 1) := by decide +kernel
theorem d_D_start_2 : decode m_D_start.2.1 2 = .ok (.invokevirtual 69, 3) := by decide +kernel
theorem d_D_start_5 : decode m_D_start.2.1 5 = .ok (.astore_n 3, 1) := by decide +kernel
theorem d_D_start_6 : decode m_D_start.2.1 6 = .ok (.aload_n 3, 1) := by decide +kernel
theorem d_D_start_7 : decode m_D_start.2.1 7 = .ok (.ifnonnull 5, 3) := by decide +kernel
theorem d_D_start_10 : decode m_D_start.2.1 10 = .ok (.iconst 0, 1) := by decide +kernel
theorem d_D_start_11 : decode m_D_start.2.1 11 = .ok (.ireturn, 1) := by decide +kernel
theorem d_D_start_12 : decode m_D_start.2.1 12 = .ok (.aload_n 0, 1) := by decide +kernel
theorem d_D_start_13 : decode m_D_start.2.1 13 = .ok (.invokevirtual 76, 3) := by decide +kernel
theorem d_D_start_16 : decode m_D_start.2.1 16 = .ok (.aload_n 0, 1) := by decide +kernel
theorem d_D_start_17 : decode m_D_start.2.1 17 = .ok (.aload_n 3, 1) := by decide +kernel
theorem d_D_start_18 : decode m_D_start.2.1 18 = .ok (.iload_n 2, 1) := by decide +kernel
theorem d_D_start_19 : decode m_D_start.2.1 19 = .ok (.iconst (-1), 1) := by decide +kernel
theorem d_D_start_20 : decode m_D_start.2.1 20 = .ok (.invokevirtual 79, 3) := by decide +kernel
theorem d_D_start_23 : decode m_D_start.2.1 23 = .ok (.iconst 1, 1) := by decide +kernel
theorem d_D_start_24 : decode m_D_start.2.1 24 = .ok (.ireturn, 1) := by decide +kernel
theorem d_D_run_0 : decode m_D_run.2.1 0 = .ok (.iload_n 1, 1) := by decide +kernel
theorem d_D_run_1 : decode m_D_run.2.1 1 = .ok (.iconst 1, 1) := by decide +kernel
theorem d_D_run_2 : decode m_D_run.2.1 2 = .ok (.if_icmp .lt 16, 3) := by decide +kernel
theorem d_D_run_5 : decode m_D_run.2.1 5 = .ok (.iload_n 1, 1) := by decide +kernel
theorem d_D_run_6 : decode m_D_run.2.1 6 = .ok (.bipush 20, 2) := by decide +kernel
theorem d_D_run_8 : decode m_D_run.2.1 8 = .ok (.if_icmp .gt 10, 3) := by decide +kernel
theorem d_D_run_11 : decode m_D_run.2.1 11 = .ok (.aload_n 0, 1) := by decide +kernel
theorem d_D_run_12 : decode m_D_run.2.1 12 = .ok (.getfield 25, 3) := by decide +kernel
theorem d_D_run_15 : decode m_D_run.2.1 15 = .ok (.ifCond .ne 5, 3) := by decide +kernel
theorem d_D_run_18 : decode m_D_run.2.1 18 = .ok (.iconst (-1), 1) := by decide +kernel
theorem d_D_run_19 : decode m_D_run.2.1 19 = .ok (.ireturn, 1) := by decide +kernel
theorem d_D_run_20 : decode m_D_run.2.1 20 = .ok (.iconst 0, 1) := by decide +kernel
theorem d_D_run_21 : decode m_D_run.2.1 21 = .ok (.istore_n 2, 1) := by decide +kernel
theorem d_D_run_22 : decode m_D_run.2.1 22 = .ok (.iload_n 2, 1) := by decide +kernel
theorem d_D_run_23 : decode m_D_run.2.1 23 = .ok (.iload_n 1, 1) := by decide +kernel
theorem d_D_run_24 : decode m_D_run.2.1 24 = .ok (.if_icmp .ge 20, 3) := by decide +kernel
theorem d_D_run_27 : decode m_D_run.2.1 27 = .ok (.aload_n 0, 1) := by decide +kernel
theorem d_D_run_28 : decode m_D_run.2.1 28 = .ok (.invokevirtual 83, 3) := by decide +kernel
theorem d_D_run_31 : decode m_D_run.2.1 31 = .ok (.ifCond .eq 13, 3) := by decide +kernel
theorem d_D_run_34 : decode m_D_run.2.1 34 = .ok (.aload_n 0, 1) := by decide +kernel
theorem d_D_run_35 : decode m_D_run.2.1 35 = .ok (.invokevirtual 87, 3) := by decide +kernel
theorem d_D_run_38 : decode m_D_run.2.1 38 = .ok (.iinc 2 1, 3) := by decide +kernel
theorem d_D_run_41 : decode m_D_run.2.1 41 = .ok (.goto (-19), 3) := by decide +kernel
theorem d_D_run_44 : decode m_D_run.2.1 44 = .ok (.aload_n 0, 1) := by decide +kernel
theorem d_D_run_45 : decode m_D_run.2.1 45 = .ok (.invokevirtual 90, 3) := by decide +kernel
theorem d_D_run_48 : decode m_D_run.2.1 48 = .ok (.ireturn, 1) := by decide +kernel
theorem d_D_interrupt_0 : decode m_D_interrupt.2.1 0 = .ok (.aload_n 0, 1) := by decide +kernel
theorem d_D_interrupt_1 : decode m_D_interrupt.2.1 1 = .ok (.iload_n 1, 1) := by decide +kernel
theorem d_D_interrupt_2 : decode m_D_interrupt.2.1 2 = .ok (.invokevirtual 94, 3) := by decide +kernel
theorem d_D_interrupt_5 : decode m_D_interrupt.2.1 5 = .ok (.astore_n 2, 1) := by decide +kernel
theorem d_D_interrupt_6 : decode m_D_interrupt.2.1 6 = .ok (.aload_n 2, 1) := by decide +kernel
theorem d_D_interrupt_7 : decode m_D_interrupt.2.1 7 = .ok (.ifnull 10, 3) := by decide +kernel
theorem d_D_interrupt_10 : decode m_D_interrupt.2.1 10 = .ok (.aload_n 2, 1) := by decide +kernel
theorem d_D_interrupt_11 : decode m_D_interrupt.2.1 11 = .ok (.getfield 98, 3) := by decide +kernel
theorem d_D_interrupt_14 : decode m_D_interrupt.2.1 14 = .ok (.ifCond .eq 5, 3) := by decide +kernel
theorem d_D_interrupt_17 : decode m_D_interrupt.2.1 17 = .ok (.iconst 0, 1) := by decide +kernel
theorem d_D_interrupt_18 : decode m_D_interrupt.2.1 18 = .ok (.ireturn, 1) := by decide +kernel
theorem d_D_interrupt_19 : decode m_D_interrupt.2.1 19 = .ok (.aload_n 0, 1) := by decide +kernel
theorem d_D_interrupt_20 : decode m_D_interrupt.2.1 20 = .ok (.aload_n 2, 1) := by decide +kernel
theorem d_D_interrupt_21 : decode m_D_interrupt.2.1 21 = .ok (.iconst (-1), 1) := by decide +kernel
theorem d_D_interrupt_22 : decode m_D_interrupt.2.1 22 = .ok (.invokevirtual 102, 3) := by decide +kernel
theorem d_D_interrupt_25 : decode m_D_interrupt.2.1 25 = .ok (.iconst 1, 1) := by decide +kernel
theorem d_D_interrupt_26 : decode m_D_interrupt.2.1 26 = .ok (.ireturn, 1) := by decide +kernel
theorem d_D_keep_0 : decode m_D_keep.2.1 0 = .ok (.aload_n 0, 1) := by decide +kernel
theorem d_D_keep_1 : decode m_D_keep.2.1 1 = .ok (.iload_n 1, 1) := by decide +kernel
theorem d_D_keep_2 : decode m_D_keep.2.1 2 = .ok (.invokevirtual 106, 3) := by decide +kernel
theorem d_D_keep_5 : decode m_D_keep.2.1 5 = .ok (.astore_n 3, 1) := by decide +kernel
theorem d_D_keep_6 : decode m_D_keep.2.1 6 = .ok (.aload_n 0, 1) := by decide +kernel
theorem d_D_keep_7 : decode m_D_keep.2.1 7 = .ok (.getfield 25, 3) := by decide +kernel
theorem d_D_keep_10 : decode m_D_keep.2.1 10 = .ok (.ifCond .le 20, 3) := by decide +kernel
theorem d_D_keep_13 : decode m_D_keep.2.1 13 = .ok (.aload_n 3, 1) := by decide +kernel
theorem d_D_keep_14 : decode m_D_keep.2.1 14 = .ok (.ifnull 16, 3) := by decide +kernel
theorem d_D_keep_17 : decode m_D_keep.2.1 17 = .ok (.aload_n 0, 1) := by decide +kernel
theorem d_D_keep_18 : decode m_D_keep.2.1 18 = .ok (.aload_n 3, 1) := by decide +kernel
theorem d_D_keep_19 : decode m_D_keep.2.1 19 = .ok (.iload_n 2, 1) := by decide +kernel
theorem d_D_keep_20 : decode m_D_keep.2.1 20 = .ok (.invokevirtual 110, 3) := by decide +kernel
theorem d_D_keep_23 : decode m_D_keep.2.1 23 = .ok (.ifCond .eq 7, 3) := by decide +kernel
theorem d_D_keep_26 : decode m_D_keep.2.1 26 = .ok (.iconst 1, 1) := by decide +kernel
theorem d_D_keep_27 : decode m_D_keep.2.1 27 = .ok (.goto 4, 3) := by decide +kernel
theorem d_D_keep_30 : decode m_D_keep.2.1 30 = .ok (.iconst 0, 1) := by decide +kernel
theorem d_D_keep_31 : decode m_D_keep.2.1 31 = .ok (.ireturn, 1) := by decide +kernel
theorem d_D_fiber_0 : decode m_D_fiber.2.1 0 = .ok (.aload_n 0, 1) := by decide +kernel
theorem d_D_fiber_1 : decode m_D_fiber.2.1 1 = .ok (.iload_n 1, 1) := by decide +kernel
theorem d_D_fiber_2 : decode m_D_fiber.2.1 2 = .ok (.invokevirtual 94, 3) := by decide +kernel
theorem d_D_fiber_5 : decode m_D_fiber.2.1 5 = .ok (.astore_n 3, 1) := by decide +kernel
theorem d_D_fiber_6 : decode m_D_fiber.2.1 6 = .ok (.aload_n 3, 1) := by decide +kernel
theorem d_D_fiber_7 : decode m_D_fiber.2.1 7 = .ok (.ifnonnull 5, 3) := by decide +kernel
theorem d_D_fiber_10 : decode m_D_fiber.2.1 10 = .ok (.iconst (-1), 1) := by decide +kernel
theorem d_D_fiber_11 : decode m_D_fiber.2.1 11 = .ok (.ireturn, 1) := by decide +kernel
theorem d_D_fiber_12 : decode m_D_fiber.2.1 12 = .ok (.iload_n 2, 1) := by decide +kernel
theorem d_D_fiber_13 : decode m_D_fiber.2.1 13 = .ok (.tableswitch 107 0 7 #[47, 52, 65, 70, 75, 80, 97, 102], 47) := by decide +kernel
theorem d_D_fiber_60 : decode m_D_fiber.2.1 60 = .ok (.aload_n 3, 1) := by decide +kernel
theorem d_D_fiber_61 : decode m_D_fiber.2.1 61 = .ok (.invokevirtual 114, 3) := by decide +kernel
theorem d_D_fiber_64 : decode m_D_fiber.2.1 64 = .ok (.ireturn, 1) := by decide +kernel
theorem d_D_fiber_65 : decode m_D_fiber.2.1 65 = .ok (.aload_n 3, 1) := by decide +kernel
theorem d_D_fiber_66 : decode m_D_fiber.2.1 66 = .ok (.getfield 117, 3) := by decide +kernel
theorem d_D_fiber_69 : decode m_D_fiber.2.1 69 = .ok (.ifCond .eq 7, 3) := by decide +kernel
theorem d_D_fiber_72 : decode m_D_fiber.2.1 72 = .ok (.iconst 1, 1) := by decide +kernel
theorem d_D_fiber_73 : decode m_D_fiber.2.1 73 = .ok (.goto 4, 3) := by decide +kernel
theorem d_D_fiber_76 : decode m_D_fiber.2.1 76 = .ok (.iconst 0, 1) := by decide +kernel
theorem d_D_fiber_77 : decode m_D_fiber.2.1 77 = .ok (.ireturn, 1) := by decide +kernel
theorem d_D_fiber_78 : decode m_D_fiber.2.1 78 = .ok (.aload_n 3, 1) := by decide +kernel
theorem d_D_fiber_79 : decode m_D_fiber.2.1 79 = .ok (.getfield 120, 3) := by decide +kernel
theorem d_D_fiber_82 : decode m_D_fiber.2.1 82 = .ok (.ireturn, 1) := by decide +kernel
theorem d_D_fiber_83 : decode m_D_fiber.2.1 83 = .ok (.aload_n 3, 1) := by decide +kernel
theorem d_D_fiber_84 : decode m_D_fiber.2.1 84 = .ok (.getfield 123, 3) := by decide +kernel
theorem d_D_fiber_87 : decode m_D_fiber.2.1 87 = .ok (.ireturn, 1) := by decide +kernel
theorem d_D_fiber_88 : decode m_D_fiber.2.1 88 = .ok (.aload_n 3, 1) := by decide +kernel
theorem d_D_fiber_89 : decode m_D_fiber.2.1 89 = .ok (.getfield 126, 3) := by decide +kernel
theorem d_D_fiber_92 : decode m_D_fiber.2.1 92 = .ok (.ireturn, 1) := by decide +kernel
theorem d_D_fiber_93 : decode m_D_fiber.2.1 93 = .ok (.aload_n 3, 1) := by decide +kernel
theorem d_D_fiber_94 : decode m_D_fiber.2.1 94 = .ok (.invokevirtual 114, 3) := by decide +kernel
theorem d_D_fiber_97 : decode m_D_fiber.2.1 97 = .ok (.iconst 2, 1) := by decide +kernel
theorem d_D_fiber_98 : decode m_D_fiber.2.1 98 = .ok (.if_icmp .ne 10, 3) := by decide +kernel
theorem d_D_fiber_101 : decode m_D_fiber.2.1 101 = .ok (.aload_n 3, 1) := by decide +kernel
theorem d_D_fiber_102 : decode m_D_fiber.2.1 102 = .ok (.getfield 129, 3) := by decide +kernel
theorem d_D_fiber_105 : decode m_D_fiber.2.1 105 = .ok (.goto 4, 3) := by decide +kernel
theorem d_D_fiber_108 : decode m_D_fiber.2.1 108 = .ok (.iconst 0, 1) := by decide +kernel
theorem d_D_fiber_109 : decode m_D_fiber.2.1 109 = .ok (.ireturn, 1) := by decide +kernel
theorem d_D_fiber_110 : decode m_D_fiber.2.1 110 = .ok (.aload_n 3, 1) := by decide +kernel
theorem d_D_fiber_111 : decode m_D_fiber.2.1 111 = .ok (.getfield 132, 3) := by decide +kernel
theorem d_D_fiber_114 : decode m_D_fiber.2.1 114 = .ok (.ireturn, 1) := by decide +kernel
theorem d_D_fiber_115 : decode m_D_fiber.2.1 115 = .ok (.aload_n 3, 1) := by decide +kernel
theorem d_D_fiber_116 : decode m_D_fiber.2.1 116 = .ok (.getfield 133, 3) := by decide +kernel
theorem d_D_fiber_119 : decode m_D_fiber.2.1 119 = .ok (.ireturn, 1) := by decide +kernel
theorem d_D_fiber_120 : decode m_D_fiber.2.1 120 = .ok (.iconst (-1), 1) := by decide +kernel
theorem d_D_fiber_121 : decode m_D_fiber.2.1 121 = .ok (.ireturn, 1) := by decide +kernel
theorem d_D_cause_0 : decode m_D_cause.2.1 0 = .ok (.aload_n 0, 1) := by decide +kernel
theorem d_D_cause_1 : decode m_D_cause.2.1 1 = .ok (.iload_n 1, 1) := by decide +kernel
theorem d_D_cause_2 : decode m_D_cause.2.1 2 = .ok (.invokevirtual 94, 3) := by decide +kernel
theorem d_D_cause_5 : decode m_D_cause.2.1 5 = .ok (.astore 4, 2) := by decide +kernel
theorem d_D_cause_7 : decode m_D_cause.2.1 7 = .ok (.aload 4, 2) := by decide +kernel
theorem d_D_cause_9 : decode m_D_cause.2.1 9 = .ok (.ifnull 36, 3) := by decide +kernel
theorem d_D_cause_12 : decode m_D_cause.2.1 12 = .ok (.aload 4, 2) := by decide +kernel
theorem d_D_cause_14 : decode m_D_cause.2.1 14 = .ok (.getfield 98, 3) := by decide +kernel
theorem d_D_cause_17 : decode m_D_cause.2.1 17 = .ok (.ifCond .eq 28, 3) := by decide +kernel
theorem d_D_cause_20 : decode m_D_cause.2.1 20 = .ok (.aload 4, 2) := by decide +kernel
theorem d_D_cause_22 : decode m_D_cause.2.1 22 = .ok (.getfield 136, 3) := by decide +kernel
theorem d_D_cause_25 : decode m_D_cause.2.1 25 = .ok (.ifnull 20, 3) := by decide +kernel
theorem d_D_cause_28 : decode m_D_cause.2.1 28 = .ok (.iload_n 2, 1) := by decide +kernel
theorem d_D_cause_29 : decode m_D_cause.2.1 29 = .ok (.ifCond .lt 16, 3) := by decide +kernel
theorem d_D_cause_32 : decode m_D_cause.2.1 32 = .ok (.iload_n 2, 1) := by decide +kernel
theorem d_D_cause_33 : decode m_D_cause.2.1 33 = .ok (.aload 4, 2) := by decide +kernel
theorem d_D_cause_35 : decode m_D_cause.2.1 35 = .ok (.getfield 136, 3) := by decide +kernel
theorem d_D_cause_38 : decode m_D_cause.2.1 38 = .ok (.getfield 140, 3) := by decide +kernel
theorem d_D_cause_41 : decode m_D_cause.2.1 41 = .ok (.arraylength, 1) := by decide +kernel
theorem d_D_cause_42 : decode m_D_cause.2.1 42 = .ok (.if_icmp .lt 5, 3) := by decide +kernel
theorem d_D_cause_45 : decode m_D_cause.2.1 45 = .ok (.iconst (-1), 1) := by decide +kernel
theorem d_D_cause_46 : decode m_D_cause.2.1 46 = .ok (.ireturn, 1) := by decide +kernel
theorem d_D_cause_47 : decode m_D_cause.2.1 47 = .ok (.iload_n 3, 1) := by decide +kernel
theorem d_D_cause_48 : decode m_D_cause.2.1 48 = .ok (.lookupswitch 50 #[(0, 28), (1, 39)], 28) := by decide +kernel
theorem d_D_cause_76 : decode m_D_cause.2.1 76 = .ok (.aload 4, 2) := by decide +kernel
theorem d_D_cause_78 : decode m_D_cause.2.1 78 = .ok (.getfield 136, 3) := by decide +kernel
theorem d_D_cause_81 : decode m_D_cause.2.1 81 = .ok (.getfield 140, 3) := by decide +kernel
theorem d_D_cause_84 : decode m_D_cause.2.1 84 = .ok (.iload_n 2, 1) := by decide +kernel
theorem d_D_cause_85 : decode m_D_cause.2.1 85 = .ok (.iaload, 1) := by decide +kernel
theorem d_D_cause_86 : decode m_D_cause.2.1 86 = .ok (.ireturn, 1) := by decide +kernel
theorem d_D_cause_87 : decode m_D_cause.2.1 87 = .ok (.aload 4, 2) := by decide +kernel
theorem d_D_cause_89 : decode m_D_cause.2.1 89 = .ok (.getfield 136, 3) := by decide +kernel
theorem d_D_cause_92 : decode m_D_cause.2.1 92 = .ok (.getfield 145, 3) := by decide +kernel
theorem d_D_cause_95 : decode m_D_cause.2.1 95 = .ok (.iload_n 2, 1) := by decide +kernel
theorem d_D_cause_96 : decode m_D_cause.2.1 96 = .ok (.iaload, 1) := by decide +kernel
theorem d_D_cause_97 : decode m_D_cause.2.1 97 = .ok (.ireturn, 1) := by decide +kernel
theorem d_D_cause_98 : decode m_D_cause.2.1 98 = .ok (.iconst (-1), 1) := by decide +kernel
theorem d_D_cause_99 : decode m_D_cause.2.1 99 = .ok (.ireturn, 1) := by decide +kernel
theorem d_D_queued_0 : decode m_D_queued.2.1 0 = .ok (.iload_n 1, 1) := by decide +kernel
theorem d_D_queued_1 : decode m_D_queued.2.1 1 = .ok (.ifCond .lt 25, 3) := by decide +kernel
theorem d_D_queued_4 : decode m_D_queued.2.1 4 = .ok (.iload_n 1, 1) := by decide +kernel
theorem d_D_queued_5 : decode m_D_queued.2.1 5 = .ok (.aload_n 0, 1) := by decide +kernel
theorem d_D_queued_6 : decode m_D_queued.2.1 6 = .ok (.getfield 31, 3) := by decide +kernel
theorem d_D_queued_9 : decode m_D_queued.2.1 9 = .ok (.getfield 148, 3) := by decide +kernel
theorem d_D_queued_12 : decode m_D_queued.2.1 12 = .ok (.if_icmp .ge 14, 3) := by decide +kernel
theorem d_D_queued_15 : decode m_D_queued.2.1 15 = .ok (.aload_n 0, 1) := by decide +kernel
theorem d_D_queued_16 : decode m_D_queued.2.1 16 = .ok (.getfield 31, 3) := by decide +kernel
theorem d_D_queued_19 : decode m_D_queued.2.1 19 = .ok (.iload_n 1, 1) := by decide +kernel
theorem d_D_queued_20 : decode m_D_queued.2.1 20 = .ok (.invokevirtual 151, 3) := by decide +kernel
theorem d_D_queued_23 : decode m_D_queued.2.1 23 = .ok (.goto 4, 3) := by decide +kernel
theorem d_D_queued_26 : decode m_D_queued.2.1 26 = .ok (.iconst (-1), 1) := by decide +kernel
theorem d_D_queued_27 : decode m_D_queued.2.1 27 = .ok (.ireturn, 1) := by decide +kernel
theorem d_D_printed_0 : decode m_D_printed.2.1 0 = .ok (.iload_n 1, 1) := by decide +kernel
theorem d_D_printed_1 : decode m_D_printed.2.1 1 = .ok (.ifCond .lt 26, 3) := by decide +kernel
theorem d_D_printed_4 : decode m_D_printed.2.1 4 = .ok (.iload_n 1, 1) := by decide +kernel
theorem d_D_printed_5 : decode m_D_printed.2.1 5 = .ok (.aload_n 0, 1) := by decide +kernel
theorem d_D_printed_6 : decode m_D_printed.2.1 6 = .ok (.getfield 45, 3) := by decide +kernel
theorem d_D_printed_9 : decode m_D_printed.2.1 9 = .ok (.if_icmp .ge 18, 3) := by decide +kernel
theorem d_D_printed_12 : decode m_D_printed.2.1 12 = .ok (.iload_n 1, 1) := by decide +kernel
theorem d_D_printed_13 : decode m_D_printed.2.1 13 = .ok (.bipush 24, 2) := by decide +kernel
theorem d_D_printed_15 : decode m_D_printed.2.1 15 = .ok (.if_icmp .ge 12, 3) := by decide +kernel
theorem d_D_printed_18 : decode m_D_printed.2.1 18 = .ok (.aload_n 0, 1) := by decide +kernel
theorem d_D_printed_19 : decode m_D_printed.2.1 19 = .ok (.getfield 41, 3) := by decide +kernel
theorem d_D_printed_22 : decode m_D_printed.2.1 22 = .ok (.iload_n 1, 1) := by decide +kernel
theorem d_D_printed_23 : decode m_D_printed.2.1 23 = .ok (.iaload, 1) := by decide +kernel
theorem d_D_printed_24 : decode m_D_printed.2.1 24 = .ok (.goto 4, 3) := by decide +kernel
theorem d_D_printed_27 : decode m_D_printed.2.1 27 = .ok (.iconst 0, 1) := by decide +kernel
theorem d_D_printed_28 : decode m_D_printed.2.1 28 = .ok (.ireturn, 1) := by decide +kernel
theorem d_D_cell_0 : decode m_D_cell.2.1 0 = .ok (.aload_n 0, 1) := by decide +kernel
theorem d_D_cell_1 : decode m_D_cell.2.1 1 = .ok (.iload_n 1, 1) := by decide +kernel
theorem d_D_cell_2 : decode m_D_cell.2.1 2 = .ok (.invokevirtual 106, 3) := by decide +kernel
theorem d_D_cell_5 : decode m_D_cell.2.1 5 = .ok (.astore_n 3, 1) := by decide +kernel
theorem d_D_cell_6 : decode m_D_cell.2.1 6 = .ok (.aload_n 3, 1) := by decide +kernel
theorem d_D_cell_7 : decode m_D_cell.2.1 7 = .ok (.ifnull 10, 3) := by decide +kernel
theorem d_D_cell_10 : decode m_D_cell.2.1 10 = .ok (.aload_n 0, 1) := by decide +kernel
theorem d_D_cell_11 : decode m_D_cell.2.1 11 = .ok (.getfield 25, 3) := by decide +kernel
theorem d_D_cell_14 : decode m_D_cell.2.1 14 = .ok (.ifCond .ne 5, 3) := by decide +kernel
theorem d_D_cell_17 : decode m_D_cell.2.1 17 = .ok (.iconst (-1), 1) := by decide +kernel
theorem d_D_cell_18 : decode m_D_cell.2.1 18 = .ok (.ireturn, 1) := by decide +kernel
theorem d_D_cell_19 : decode m_D_cell.2.1 19 = .ok (.iload_n 2, 1) := by decide +kernel
theorem d_D_cell_20 : decode m_D_cell.2.1 20 = .ok (.tableswitch 84 0 5 #[40, 45, 58, 63, 68, 76], 40) := by decide +kernel
theorem d_D_cell_60 : decode m_D_cell.2.1 60 = .ok (.aload_n 3, 1) := by decide +kernel
theorem d_D_cell_61 : decode m_D_cell.2.1 61 = .ok (.getfield 155, 3) := by decide +kernel
theorem d_D_cell_64 : decode m_D_cell.2.1 64 = .ok (.ireturn, 1) := by decide +kernel
theorem d_D_cell_65 : decode m_D_cell.2.1 65 = .ok (.aload_n 3, 1) := by decide +kernel
theorem d_D_cell_66 : decode m_D_cell.2.1 66 = .ok (.getfield 158, 3) := by decide +kernel
theorem d_D_cell_69 : decode m_D_cell.2.1 69 = .ok (.ifCond .eq 7, 3) := by decide +kernel
theorem d_D_cell_72 : decode m_D_cell.2.1 72 = .ok (.iconst 1, 1) := by decide +kernel
theorem d_D_cell_73 : decode m_D_cell.2.1 73 = .ok (.goto 4, 3) := by decide +kernel
theorem d_D_cell_76 : decode m_D_cell.2.1 76 = .ok (.iconst 0, 1) := by decide +kernel
theorem d_D_cell_77 : decode m_D_cell.2.1 77 = .ok (.ireturn, 1) := by decide +kernel
theorem d_D_cell_78 : decode m_D_cell.2.1 78 = .ok (.aload_n 3, 1) := by decide +kernel
theorem d_D_cell_79 : decode m_D_cell.2.1 79 = .ok (.getfield 161, 3) := by decide +kernel
theorem d_D_cell_82 : decode m_D_cell.2.1 82 = .ok (.ireturn, 1) := by decide +kernel
theorem d_D_cell_83 : decode m_D_cell.2.1 83 = .ok (.aload_n 3, 1) := by decide +kernel
theorem d_D_cell_84 : decode m_D_cell.2.1 84 = .ok (.getfield 164, 3) := by decide +kernel
theorem d_D_cell_87 : decode m_D_cell.2.1 87 = .ok (.ireturn, 1) := by decide +kernel
theorem d_D_cell_88 : decode m_D_cell.2.1 88 = .ok (.aload_n 3, 1) := by decide +kernel
theorem d_D_cell_89 : decode m_D_cell.2.1 89 = .ok (.getfield 167, 3) := by decide +kernel
theorem d_D_cell_92 : decode m_D_cell.2.1 92 = .ok (.getfield 148, 3) := by decide +kernel
theorem d_D_cell_95 : decode m_D_cell.2.1 95 = .ok (.ireturn, 1) := by decide +kernel
theorem d_D_cell_96 : decode m_D_cell.2.1 96 = .ok (.aload_n 3, 1) := by decide +kernel
theorem d_D_cell_97 : decode m_D_cell.2.1 97 = .ok (.getfield 170, 3) := by decide +kernel
theorem d_D_cell_100 : decode m_D_cell.2.1 100 = .ok (.getfield 148, 3) := by decide +kernel
theorem d_D_cell_103 : decode m_D_cell.2.1 103 = .ok (.ireturn, 1) := by decide +kernel
theorem d_D_cell_104 : decode m_D_cell.2.1 104 = .ok (.iconst (-1), 1) := by decide +kernel
theorem d_D_cell_105 : decode m_D_cell.2.1 105 = .ok (.ireturn, 1) := by decide +kernel
theorem d_D_count_0 : decode m_D_count.2.1 0 = .ok (.iload_n 1, 1) := by decide +kernel
theorem d_D_count_1 : decode m_D_count.2.1 1 = .ok (.tableswitch 112 0 7 #[47, 52, 57, 62, 67, 72, 77, 96], 47) := by decide +kernel
theorem d_D_count_48 : decode m_D_count.2.1 48 = .ok (.aload_n 0, 1) := by decide +kernel
theorem d_D_count_49 : decode m_D_count.2.1 49 = .ok (.getfield 15, 3) := by decide +kernel
theorem d_D_count_52 : decode m_D_count.2.1 52 = .ok (.ireturn, 1) := by decide +kernel
theorem d_D_count_53 : decode m_D_count.2.1 53 = .ok (.aload_n 0, 1) := by decide +kernel
theorem d_D_count_54 : decode m_D_count.2.1 54 = .ok (.getfield 25, 3) := by decide +kernel
theorem d_D_count_57 : decode m_D_count.2.1 57 = .ok (.ireturn, 1) := by decide +kernel
theorem d_D_count_58 : decode m_D_count.2.1 58 = .ok (.aload_n 0, 1) := by decide +kernel
theorem d_D_count_59 : decode m_D_count.2.1 59 = .ok (.getfield 48, 3) := by decide +kernel
theorem d_D_count_62 : decode m_D_count.2.1 62 = .ok (.ireturn, 1) := by decide +kernel
theorem d_D_count_63 : decode m_D_count.2.1 63 = .ok (.aload_n 0, 1) := by decide +kernel
theorem d_D_count_64 : decode m_D_count.2.1 64 = .ok (.getfield 51, 3) := by decide +kernel
theorem d_D_count_67 : decode m_D_count.2.1 67 = .ok (.ireturn, 1) := by decide +kernel
theorem d_D_count_68 : decode m_D_count.2.1 68 = .ok (.aload_n 0, 1) := by decide +kernel
theorem d_D_count_69 : decode m_D_count.2.1 69 = .ok (.getfield 45, 3) := by decide +kernel
theorem d_D_count_72 : decode m_D_count.2.1 72 = .ok (.ireturn, 1) := by decide +kernel
theorem d_D_count_73 : decode m_D_count.2.1 73 = .ok (.aload_n 0, 1) := by decide +kernel
theorem d_D_count_74 : decode m_D_count.2.1 74 = .ok (.getfield 54, 3) := by decide +kernel
theorem d_D_count_77 : decode m_D_count.2.1 77 = .ok (.ireturn, 1) := by decide +kernel
theorem d_D_count_78 : decode m_D_count.2.1 78 = .ok (.aload_n 0, 1) := by decide +kernel
theorem d_D_count_79 : decode m_D_count.2.1 79 = .ok (.getfield 57, 3) := by decide +kernel
theorem d_D_count_82 : decode m_D_count.2.1 82 = .ok (.ifnonnull 7, 3) := by decide +kernel
theorem d_D_count_85 : decode m_D_count.2.1 85 = .ok (.iconst (-1), 1) := by decide +kernel
theorem d_D_count_86 : decode m_D_count.2.1 86 = .ok (.goto 10, 3) := by decide +kernel
theorem d_D_count_89 : decode m_D_count.2.1 89 = .ok (.aload_n 0, 1) := by decide +kernel
theorem d_D_count_90 : decode m_D_count.2.1 90 = .ok (.getfield 57, 3) := by decide +kernel
theorem d_D_count_93 : decode m_D_count.2.1 93 = .ok (.getfield 173, 3) := by decide +kernel
theorem d_D_count_96 : decode m_D_count.2.1 96 = .ok (.ireturn, 1) := by decide +kernel
theorem d_D_count_97 : decode m_D_count.2.1 97 = .ok (.aload_n 0, 1) := by decide +kernel
theorem d_D_count_98 : decode m_D_count.2.1 98 = .ok (.getfield 25, 3) := by decide +kernel
theorem d_D_count_101 : decode m_D_count.2.1 101 = .ok (.ifCond .ne 7, 3) := by decide +kernel
theorem d_D_count_104 : decode m_D_count.2.1 104 = .ok (.iconst (-1), 1) := by decide +kernel
theorem d_D_count_105 : decode m_D_count.2.1 105 = .ok (.goto 7, 3) := by decide +kernel
theorem d_D_count_108 : decode m_D_count.2.1 108 = .ok (.aload_n 0, 1) := by decide +kernel
theorem d_D_count_109 : decode m_D_count.2.1 109 = .ok (.invokevirtual 90, 3) := by decide +kernel
theorem d_D_count_112 : decode m_D_count.2.1 112 = .ok (.ireturn, 1) := by decide +kernel
theorem d_D_count_113 : decode m_D_count.2.1 113 = .ok (.iconst (-1), 1) := by decide +kernel
theorem d_D_count_114 : decode m_D_count.2.1 114 = .ok (.ireturn, 1) := by decide +kernel
theorem d_D_isWellFormed_0 : decode m_D_isWellFormed.2.1 0 = .ok (.iload_n 1, 1) := by decide +kernel
theorem d_D_isWellFormed_1 : decode m_D_isWellFormed.2.1 1 = .ok (.ifCond .lt 11, 3) := by decide +kernel
theorem d_D_isWellFormed_4 : decode m_D_isWellFormed.2.1 4 = .ok (.iload_n 1, 1) := by decide +kernel
theorem d_D_isWellFormed_5 : decode m_D_isWellFormed.2.1 5 = .ok (.getstatic 176, 3) := by decide +kernel
theorem d_D_isWellFormed_8 : decode m_D_isWellFormed.2.1 8 = .ok (.arraylength, 1) := by decide +kernel
theorem d_D_isWellFormed_9 : decode m_D_isWellFormed.2.1 9 = .ok (.if_icmp .lt 5, 3) := by decide +kernel
theorem d_D_isWellFormed_12 : decode m_D_isWellFormed.2.1 12 = .ok (.iconst 0, 1) := by decide +kernel
theorem d_D_isWellFormed_13 : decode m_D_isWellFormed.2.1 13 = .ok (.ireturn, 1) := by decide +kernel
theorem d_D_isWellFormed_14 : decode m_D_isWellFormed.2.1 14 = .ok (.getstatic 176, 3) := by decide +kernel
theorem d_D_isWellFormed_17 : decode m_D_isWellFormed.2.1 17 = .ok (.iload_n 1, 1) := by decide +kernel
theorem d_D_isWellFormed_18 : decode m_D_isWellFormed.2.1 18 = .ok (.iaload, 1) := by decide +kernel
theorem d_D_isWellFormed_19 : decode m_D_isWellFormed.2.1 19 = .ok (.istore 5, 2) := by decide +kernel
theorem d_D_isWellFormed_21 : decode m_D_isWellFormed.2.1 21 = .ok (.iload 5, 2) := by decide +kernel
theorem d_D_isWellFormed_23 : decode m_D_isWellFormed.2.1 23 = .ok (.iconst 1, 1) := by decide +kernel
theorem d_D_isWellFormed_24 : decode m_D_isWellFormed.2.1 24 = .ok (.if_icmp .lt 11, 3) := by decide +kernel
theorem d_D_isWellFormed_27 : decode m_D_isWellFormed.2.1 27 = .ok (.aload_n 0, 1) := by decide +kernel
theorem d_D_isWellFormed_28 : decode m_D_isWellFormed.2.1 28 = .ok (.iload_n 2, 1) := by decide +kernel
theorem d_D_isWellFormed_29 : decode m_D_isWellFormed.2.1 29 = .ok (.invokevirtual 69, 3) := by decide +kernel
theorem d_D_isWellFormed_32 : decode m_D_isWellFormed.2.1 32 = .ok (.ifnull 51, 3) := by decide +kernel
theorem d_D_isWellFormed_35 : decode m_D_isWellFormed.2.1 35 = .ok (.iload 5, 2) := by decide +kernel
theorem d_D_isWellFormed_37 : decode m_D_isWellFormed.2.1 37 = .ok (.iconst 2, 1) := by decide +kernel
theorem d_D_isWellFormed_38 : decode m_D_isWellFormed.2.1 38 = .ok (.if_icmp .lt 11, 3) := by decide +kernel
theorem d_D_isWellFormed_41 : decode m_D_isWellFormed.2.1 41 = .ok (.aload_n 0, 1) := by decide +kernel
theorem d_D_isWellFormed_42 : decode m_D_isWellFormed.2.1 42 = .ok (.iload_n 3, 1) := by decide +kernel
theorem d_D_isWellFormed_43 : decode m_D_isWellFormed.2.1 43 = .ok (.invokevirtual 69, 3) := by decide +kernel
theorem d_D_isWellFormed_46 : decode m_D_isWellFormed.2.1 46 = .ok (.ifnull 37, 3) := by decide +kernel
theorem d_D_isWellFormed_49 : decode m_D_isWellFormed.2.1 49 = .ok (.iload 5, 2) := by decide +kernel
theorem d_D_isWellFormed_51 : decode m_D_isWellFormed.2.1 51 = .ok (.iconst 3, 1) := by decide +kernel
theorem d_D_isWellFormed_52 : decode m_D_isWellFormed.2.1 52 = .ok (.if_icmp .lt 12, 3) := by decide +kernel
theorem d_D_isWellFormed_55 : decode m_D_isWellFormed.2.1 55 = .ok (.aload_n 0, 1) := by decide +kernel
theorem d_D_isWellFormed_56 : decode m_D_isWellFormed.2.1 56 = .ok (.iload 4, 2) := by decide +kernel
theorem d_D_isWellFormed_58 : decode m_D_isWellFormed.2.1 58 = .ok (.invokevirtual 69, 3) := by decide +kernel
theorem d_D_isWellFormed_61 : decode m_D_isWellFormed.2.1 61 = .ok (.ifnull 22, 3) := by decide +kernel
theorem d_D_isWellFormed_64 : decode m_D_isWellFormed.2.1 64 = .ok (.iload_n 1, 1) := by decide +kernel
theorem d_D_isWellFormed_65 : decode m_D_isWellFormed.2.1 65 = .ok (.invokestatic 179, 3) := by decide +kernel
theorem d_D_isWellFormed_68 : decode m_D_isWellFormed.2.1 68 = .ok (.ifCond .eq 11, 3) := by decide +kernel
theorem d_D_isWellFormed_71 : decode m_D_isWellFormed.2.1 71 = .ok (.aload_n 0, 1) := by decide +kernel
theorem d_D_isWellFormed_72 : decode m_D_isWellFormed.2.1 72 = .ok (.iload_n 2, 1) := by decide +kernel
theorem d_D_isWellFormed_73 : decode m_D_isWellFormed.2.1 73 = .ok (.invokevirtual 106, 3) := by decide +kernel
theorem d_D_isWellFormed_76 : decode m_D_isWellFormed.2.1 76 = .ok (.ifnull 7, 3) := by decide +kernel
theorem d_D_isWellFormed_79 : decode m_D_isWellFormed.2.1 79 = .ok (.iconst 1, 1) := by decide +kernel
theorem d_D_isWellFormed_80 : decode m_D_isWellFormed.2.1 80 = .ok (.goto 4, 3) := by decide +kernel
theorem d_D_isWellFormed_83 : decode m_D_isWellFormed.2.1 83 = .ok (.iconst 0, 1) := by decide +kernel
theorem d_D_isWellFormed_84 : decode m_D_isWellFormed.2.1 84 = .ok (.ireturn, 1) := by decide +kernel
theorem d_D_isAtPlace_0 : decode m_D_isAtPlace.2.1 0 = .ok (.iload_n 0, 1) := by decide +kernel
theorem d_D_isAtPlace_1 : decode m_D_isAtPlace.2.1 1 = .ok (.bipush 19, 2) := by decide +kernel
theorem d_D_isAtPlace_3 : decode m_D_isAtPlace.2.1 3 = .ok (.if_icmp .lt 13, 3) := by decide +kernel
theorem d_D_isAtPlace_6 : decode m_D_isAtPlace.2.1 6 = .ok (.iload_n 0, 1) := by decide +kernel
theorem d_D_isAtPlace_7 : decode m_D_isAtPlace.2.1 7 = .ok (.bipush 24, 2) := by decide +kernel
theorem d_D_isAtPlace_9 : decode m_D_isAtPlace.2.1 9 = .ok (.if_icmp .gt 7, 3) := by decide +kernel
theorem d_D_isAtPlace_12 : decode m_D_isAtPlace.2.1 12 = .ok (.iconst 1, 1) := by decide +kernel
theorem d_D_isAtPlace_13 : decode m_D_isAtPlace.2.1 13 = .ok (.goto 4, 3) := by decide +kernel
theorem d_D_isAtPlace_16 : decode m_D_isAtPlace.2.1 16 = .ok (.iconst 0, 1) := by decide +kernel
theorem d_D_isAtPlace_17 : decode m_D_isAtPlace.2.1 17 = .ok (.ireturn, 1) := by decide +kernel
theorem d_D_effectAt_0 : decode m_D_effectAt.2.1 0 = .ok (.iload_n 1, 1) := by decide +kernel
theorem d_D_effectAt_1 : decode m_D_effectAt.2.1 1 = .ok (.ifCond .lt 20, 3) := by decide +kernel
theorem d_D_effectAt_4 : decode m_D_effectAt.2.1 4 = .ok (.iload_n 1, 1) := by decide +kernel
theorem d_D_effectAt_5 : decode m_D_effectAt.2.1 5 = .ok (.aload_n 0, 1) := by decide +kernel
theorem d_D_effectAt_6 : decode m_D_effectAt.2.1 6 = .ok (.getfield 15, 3) := by decide +kernel
theorem d_D_effectAt_9 : decode m_D_effectAt.2.1 9 = .ok (.if_icmp .ge 12, 3) := by decide +kernel
theorem d_D_effectAt_12 : decode m_D_effectAt.2.1 12 = .ok (.aload_n 0, 1) := by decide +kernel
theorem d_D_effectAt_13 : decode m_D_effectAt.2.1 13 = .ok (.getfield 11, 3) := by decide +kernel
theorem d_D_effectAt_16 : decode m_D_effectAt.2.1 16 = .ok (.iload_n 1, 1) := by decide +kernel
theorem d_D_effectAt_17 : decode m_D_effectAt.2.1 17 = .ok (.aaload, 1) := by decide +kernel
theorem d_D_effectAt_18 : decode m_D_effectAt.2.1 18 = .ok (.goto 4, 3) := by decide +kernel
theorem d_D_effectAt_21 : decode m_D_effectAt.2.1 21 = .ok (.aconst_null, 1) := by decide +kernel
theorem d_D_effectAt_22 : decode m_D_effectAt.2.1 22 = .ok (.areturn, 1) := by decide +kernel
theorem d_D_fiberAt_0 : decode m_D_fiberAt.2.1 0 = .ok (.iload_n 1, 1) := by decide +kernel
theorem d_D_fiberAt_1 : decode m_D_fiberAt.2.1 1 = .ok (.ifCond .lt 20, 3) := by decide +kernel
theorem d_D_fiberAt_4 : decode m_D_fiberAt.2.1 4 = .ok (.iload_n 1, 1) := by decide +kernel
theorem d_D_fiberAt_5 : decode m_D_fiberAt.2.1 5 = .ok (.aload_n 0, 1) := by decide +kernel
theorem d_D_fiberAt_6 : decode m_D_fiberAt.2.1 6 = .ok (.getfield 25, 3) := by decide +kernel
theorem d_D_fiberAt_9 : decode m_D_fiberAt.2.1 9 = .ok (.if_icmp .ge 12, 3) := by decide +kernel
theorem d_D_fiberAt_12 : decode m_D_fiberAt.2.1 12 = .ok (.aload_n 0, 1) := by decide +kernel
theorem d_D_fiberAt_13 : decode m_D_fiberAt.2.1 13 = .ok (.getfield 21, 3) := by decide +kernel
theorem d_D_fiberAt_16 : decode m_D_fiberAt.2.1 16 = .ok (.iload_n 1, 1) := by decide +kernel
theorem d_D_fiberAt_17 : decode m_D_fiberAt.2.1 17 = .ok (.aaload, 1) := by decide +kernel
theorem d_D_fiberAt_18 : decode m_D_fiberAt.2.1 18 = .ok (.goto 4, 3) := by decide +kernel
theorem d_D_fiberAt_21 : decode m_D_fiberAt.2.1 21 = .ok (.aconst_null, 1) := by decide +kernel
theorem d_D_fiberAt_22 : decode m_D_fiberAt.2.1 22 = .ok (.areturn, 1) := by decide +kernel
theorem d_D_placeAt_0 : decode m_D_placeAt.2.1 0 = .ok (.iload_n 1, 1) := by decide +kernel
theorem d_D_placeAt_1 : decode m_D_placeAt.2.1 1 = .ok (.ifCond .lt 17, 3) := by decide +kernel
theorem d_D_placeAt_4 : decode m_D_placeAt.2.1 4 = .ok (.iload_n 1, 1) := by decide +kernel
theorem d_D_placeAt_5 : decode m_D_placeAt.2.1 5 = .ok (.iconst 4, 1) := by decide +kernel
theorem d_D_placeAt_6 : decode m_D_placeAt.2.1 6 = .ok (.if_icmp .ge 12, 3) := by decide +kernel
theorem d_D_placeAt_9 : decode m_D_placeAt.2.1 9 = .ok (.aload_n 0, 1) := by decide +kernel
theorem d_D_placeAt_10 : decode m_D_placeAt.2.1 10 = .ok (.getfield 37, 3) := by decide +kernel
theorem d_D_placeAt_13 : decode m_D_placeAt.2.1 13 = .ok (.iload_n 1, 1) := by decide +kernel
theorem d_D_placeAt_14 : decode m_D_placeAt.2.1 14 = .ok (.aaload, 1) := by decide +kernel
theorem d_D_placeAt_15 : decode m_D_placeAt.2.1 15 = .ok (.goto 4, 3) := by decide +kernel
theorem d_D_placeAt_18 : decode m_D_placeAt.2.1 18 = .ok (.aconst_null, 1) := by decide +kernel
theorem d_D_placeAt_19 : decode m_D_placeAt.2.1 19 = .ok (.areturn, 1) := by decide +kernel
theorem d_D_standing_0 : decode m_D_standing.2.1 0 = .ok (.iconst 1, 1) := by decide +kernel
theorem d_D_standing_1 : decode m_D_standing.2.1 1 = .ok (.istore_n 1, 1) := by decide +kernel
theorem d_D_standing_2 : decode m_D_standing.2.1 2 = .ok (.iconst 0, 1) := by decide +kernel
theorem d_D_standing_3 : decode m_D_standing.2.1 3 = .ok (.istore_n 2, 1) := by decide +kernel
theorem d_D_standing_4 : decode m_D_standing.2.1 4 = .ok (.iload_n 2, 1) := by decide +kernel
theorem d_D_standing_5 : decode m_D_standing.2.1 5 = .ok (.aload_n 0, 1) := by decide +kernel
theorem d_D_standing_6 : decode m_D_standing.2.1 6 = .ok (.getfield 25, 3) := by decide +kernel
theorem d_D_standing_9 : decode m_D_standing.2.1 9 = .ok (.if_icmp .ge 48, 3) := by decide +kernel
theorem d_D_standing_12 : decode m_D_standing.2.1 12 = .ok (.aload_n 0, 1) := by decide +kernel
theorem d_D_standing_13 : decode m_D_standing.2.1 13 = .ok (.iload_n 2, 1) := by decide +kernel
theorem d_D_standing_14 : decode m_D_standing.2.1 14 = .ok (.invokevirtual 94, 3) := by decide +kernel
theorem d_D_standing_17 : decode m_D_standing.2.1 17 = .ok (.astore_n 3, 1) := by decide +kernel
theorem d_D_standing_18 : decode m_D_standing.2.1 18 = .ok (.aload_n 3, 1) := by decide +kernel
theorem d_D_standing_19 : decode m_D_standing.2.1 19 = .ok (.ifnull 32, 3) := by decide +kernel
theorem d_D_standing_22 : decode m_D_standing.2.1 22 = .ok (.aload_n 3, 1) := by decide +kernel
theorem d_D_standing_23 : decode m_D_standing.2.1 23 = .ok (.getfield 98, 3) := by decide +kernel
theorem d_D_standing_26 : decode m_D_standing.2.1 26 = .ok (.ifCond .eq 6, 3) := by decide +kernel
theorem d_D_standing_29 : decode m_D_standing.2.1 29 = .ok (.goto 22, 3) := by decide +kernel
theorem d_D_standing_32 : decode m_D_standing.2.1 32 = .ok (.aload_n 3, 1) := by decide +kernel
theorem d_D_standing_33 : decode m_D_standing.2.1 33 = .ok (.getfield 133, 3) := by decide +kernel
theorem d_D_standing_36 : decode m_D_standing.2.1 36 = .ok (.ifCond .eq 11, 3) := by decide +kernel
theorem d_D_standing_39 : decode m_D_standing.2.1 39 = .ok (.aload_n 3, 1) := by decide +kernel
theorem d_D_standing_40 : decode m_D_standing.2.1 40 = .ok (.getfield 133, 3) := by decide +kernel
theorem d_D_standing_43 : decode m_D_standing.2.1 43 = .ok (.iconst 4, 1) := by decide +kernel
theorem d_D_standing_44 : decode m_D_standing.2.1 44 = .ok (.if_icmp .ne 5, 3) := by decide +kernel
theorem d_D_standing_47 : decode m_D_standing.2.1 47 = .ok (.iconst 0, 1) := by decide +kernel
theorem d_D_standing_48 : decode m_D_standing.2.1 48 = .ok (.ireturn, 1) := by decide +kernel
theorem d_D_standing_49 : decode m_D_standing.2.1 49 = .ok (.iconst 2, 1) := by decide +kernel
theorem d_D_standing_50 : decode m_D_standing.2.1 50 = .ok (.istore_n 1, 1) := by decide +kernel
theorem d_D_standing_51 : decode m_D_standing.2.1 51 = .ok (.iinc 2 1, 3) := by decide +kernel
theorem d_D_standing_54 : decode m_D_standing.2.1 54 = .ok (.goto (-50), 3) := by decide +kernel
theorem d_D_standing_57 : decode m_D_standing.2.1 57 = .ok (.iload_n 1, 1) := by decide +kernel
theorem d_D_standing_58 : decode m_D_standing.2.1 58 = .ok (.ireturn, 1) := by decide +kernel
theorem d_D_clearAll_0 : decode m_D_clearAll.2.1 0 = .ok (.iconst 0, 1) := by decide +kernel
theorem d_D_clearAll_1 : decode m_D_clearAll.2.1 1 = .ok (.istore_n 1, 1) := by decide +kernel
theorem d_D_clearAll_2 : decode m_D_clearAll.2.1 2 = .ok (.iload_n 1, 1) := by decide +kernel
theorem d_D_clearAll_3 : decode m_D_clearAll.2.1 3 = .ok (.iconst 4, 1) := by decide +kernel
theorem d_D_clearAll_4 : decode m_D_clearAll.2.1 4 = .ok (.if_icmp .ge 23, 3) := by decide +kernel
theorem d_D_clearAll_7 : decode m_D_clearAll.2.1 7 = .ok (.aload_n 0, 1) := by decide +kernel
theorem d_D_clearAll_8 : decode m_D_clearAll.2.1 8 = .ok (.iload_n 1, 1) := by decide +kernel
theorem d_D_clearAll_9 : decode m_D_clearAll.2.1 9 = .ok (.invokevirtual 106, 3) := by decide +kernel
theorem d_D_clearAll_12 : decode m_D_clearAll.2.1 12 = .ok (.astore_n 2, 1) := by decide +kernel
theorem d_D_clearAll_13 : decode m_D_clearAll.2.1 13 = .ok (.aload_n 2, 1) := by decide +kernel
theorem d_D_clearAll_14 : decode m_D_clearAll.2.1 14 = .ok (.ifnull 7, 3) := by decide +kernel
theorem d_D_clearAll_17 : decode m_D_clearAll.2.1 17 = .ok (.aload_n 2, 1) := by decide +kernel
theorem d_D_clearAll_18 : decode m_D_clearAll.2.1 18 = .ok (.invokevirtual 183, 3) := by decide +kernel
theorem d_D_clearAll_21 : decode m_D_clearAll.2.1 21 = .ok (.iinc 1 1, 3) := by decide +kernel
theorem d_D_clearAll_24 : decode m_D_clearAll.2.1 24 = .ok (.goto (-22), 3) := by decide +kernel
theorem d_D_clearAll_27 : decode m_D_clearAll.2.1 27 = .ok (.aload_n 0, 1) := by decide +kernel
theorem d_D_clearAll_28 : decode m_D_clearAll.2.1 28 = .ok (.iconst 0, 1) := by decide +kernel
theorem d_D_clearAll_29 : decode m_D_clearAll.2.1 29 = .ok (.putfield 25, 3) := by decide +kernel
theorem d_D_clearAll_32 : decode m_D_clearAll.2.1 32 = .ok (.aload_n 0, 1) := by decide +kernel
theorem d_D_clearAll_33 : decode m_D_clearAll.2.1 33 = .ok (.getfield 31, 3) := by decide +kernel
theorem d_D_clearAll_36 : decode m_D_clearAll.2.1 36 = .ok (.invokevirtual 186, 3) := by decide +kernel
theorem d_D_clearAll_39 : decode m_D_clearAll.2.1 39 = .ok (.aload_n 0, 1) := by decide +kernel
theorem d_D_clearAll_40 : decode m_D_clearAll.2.1 40 = .ok (.iconst 0, 1) := by decide +kernel
theorem d_D_clearAll_41 : decode m_D_clearAll.2.1 41 = .ok (.putfield 45, 3) := by decide +kernel
theorem d_D_clearAll_44 : decode m_D_clearAll.2.1 44 = .ok (.aload_n 0, 1) := by decide +kernel
theorem d_D_clearAll_45 : decode m_D_clearAll.2.1 45 = .ok (.iconst 0, 1) := by decide +kernel
theorem d_D_clearAll_46 : decode m_D_clearAll.2.1 46 = .ok (.putfield 48, 3) := by decide +kernel
theorem d_D_clearAll_49 : decode m_D_clearAll.2.1 49 = .ok (.aload_n 0, 1) := by decide +kernel
theorem d_D_clearAll_50 : decode m_D_clearAll.2.1 50 = .ok (.iconst 0, 1) := by decide +kernel
theorem d_D_clearAll_51 : decode m_D_clearAll.2.1 51 = .ok (.putfield 51, 3) := by decide +kernel
theorem d_D_clearAll_54 : decode m_D_clearAll.2.1 54 = .ok (.aload_n 0, 1) := by decide +kernel
theorem d_D_clearAll_55 : decode m_D_clearAll.2.1 55 = .ok (.iconst 0, 1) := by decide +kernel
theorem d_D_clearAll_56 : decode m_D_clearAll.2.1 56 = .ok (.putfield 54, 3) := by decide +kernel
theorem d_D_clearAll_59 : decode m_D_clearAll.2.1 59 = .ok (.aload_n 0, 1) := by decide +kernel
theorem d_D_clearAll_60 : decode m_D_clearAll.2.1 60 = .ok (.aconst_null, 1) := by decide +kernel
theorem d_D_clearAll_61 : decode m_D_clearAll.2.1 61 = .ok (.putfield 57, 3) := by decide +kernel
theorem d_D_clearAll_64 : decode m_D_clearAll.2.1 64 = .ok (.return_, 1) := by decide +kernel
theorem d_D_hasTurn_0 : decode m_D_hasTurn.2.1 0 = .ok (.aload_n 0, 1) := by decide +kernel
theorem d_D_hasTurn_1 : decode m_D_hasTurn.2.1 1 = .ok (.getfield 57, 3) := by decide +kernel
theorem d_D_hasTurn_4 : decode m_D_hasTurn.2.1 4 = .ok (.ifnull 5, 3) := by decide +kernel
theorem d_D_hasTurn_7 : decode m_D_hasTurn.2.1 7 = .ok (.iconst 1, 1) := by decide +kernel
theorem d_D_hasTurn_8 : decode m_D_hasTurn.2.1 8 = .ok (.ireturn, 1) := by decide +kernel
theorem d_D_hasTurn_9 : decode m_D_hasTurn.2.1 9 = .ok (.aload_n 0, 1) := by decide +kernel
theorem d_D_hasTurn_10 : decode m_D_hasTurn.2.1 10 = .ok (.getfield 31, 3) := by decide +kernel
theorem d_D_hasTurn_13 : decode m_D_hasTurn.2.1 13 = .ok (.getfield 148, 3) := by decide +kernel
theorem d_D_hasTurn_16 : decode m_D_hasTurn.2.1 16 = .ok (.ifCond .ne 7, 3) := by decide +kernel
theorem d_D_hasTurn_19 : decode m_D_hasTurn.2.1 19 = .ok (.aload_n 0, 1) := by decide +kernel
theorem d_D_hasTurn_20 : decode m_D_hasTurn.2.1 20 = .ok (.invokevirtual 187, 3) := by decide +kernel
theorem d_D_hasTurn_23 : decode m_D_hasTurn.2.1 23 = .ok (.aload_n 0, 1) := by decide +kernel
theorem d_D_hasTurn_24 : decode m_D_hasTurn.2.1 24 = .ok (.getfield 31, 3) := by decide +kernel
theorem d_D_hasTurn_27 : decode m_D_hasTurn.2.1 27 = .ok (.getfield 148, 3) := by decide +kernel
theorem d_D_hasTurn_30 : decode m_D_hasTurn.2.1 30 = .ok (.ifCond .ne 5, 3) := by decide +kernel
theorem d_D_hasTurn_33 : decode m_D_hasTurn.2.1 33 = .ok (.iconst 0, 1) := by decide +kernel
theorem d_D_hasTurn_34 : decode m_D_hasTurn.2.1 34 = .ok (.ireturn, 1) := by decide +kernel
theorem d_D_hasTurn_35 : decode m_D_hasTurn.2.1 35 = .ok (.aload_n 0, 1) := by decide +kernel
theorem d_D_hasTurn_36 : decode m_D_hasTurn.2.1 36 = .ok (.aload_n 0, 1) := by decide +kernel
theorem d_D_hasTurn_37 : decode m_D_hasTurn.2.1 37 = .ok (.aload_n 0, 1) := by decide +kernel
theorem d_D_hasTurn_38 : decode m_D_hasTurn.2.1 38 = .ok (.getfield 31, 3) := by decide +kernel
theorem d_D_hasTurn_41 : decode m_D_hasTurn.2.1 41 = .ok (.invokevirtual 190, 3) := by decide +kernel
theorem d_D_hasTurn_44 : decode m_D_hasTurn.2.1 44 = .ok (.invokevirtual 94, 3) := by decide +kernel
theorem d_D_hasTurn_47 : decode m_D_hasTurn.2.1 47 = .ok (.putfield 57, 3) := by decide +kernel
theorem d_D_hasTurn_50 : decode m_D_hasTurn.2.1 50 = .ok (.aload_n 0, 1) := by decide +kernel
theorem d_D_hasTurn_51 : decode m_D_hasTurn.2.1 51 = .ok (.iconst 5, 1) := by decide +kernel
theorem d_D_hasTurn_52 : decode m_D_hasTurn.2.1 52 = .ok (.putfield 61, 3) := by decide +kernel
theorem d_D_hasTurn_55 : decode m_D_hasTurn.2.1 55 = .ok (.aload_n 0, 1) := by decide +kernel
theorem d_D_hasTurn_56 : decode m_D_hasTurn.2.1 56 = .ok (.dup, 1) := by decide +kernel
theorem d_D_hasTurn_57 : decode m_D_hasTurn.2.1 57 = .ok (.getfield 54, 3) := by decide +kernel
theorem d_D_hasTurn_60 : decode m_D_hasTurn.2.1 60 = .ok (.iconst 1, 1) := by decide +kernel
theorem d_D_hasTurn_61 : decode m_D_hasTurn.2.1 61 = .ok (.iadd, 1) := by decide +kernel
theorem d_D_hasTurn_62 : decode m_D_hasTurn.2.1 62 = .ok (.putfield 54, 3) := by decide +kernel
theorem d_D_hasTurn_65 : decode m_D_hasTurn.2.1 65 = .ok (.aload_n 0, 1) := by decide +kernel
theorem d_D_hasTurn_66 : decode m_D_hasTurn.2.1 66 = .ok (.getfield 57, 3) := by decide +kernel
theorem d_D_hasTurn_69 : decode m_D_hasTurn.2.1 69 = .ok (.ifnull 7, 3) := by decide +kernel
theorem d_D_hasTurn_72 : decode m_D_hasTurn.2.1 72 = .ok (.iconst 1, 1) := by decide +kernel
theorem d_D_hasTurn_73 : decode m_D_hasTurn.2.1 73 = .ok (.goto 4, 3) := by decide +kernel
theorem d_D_hasTurn_76 : decode m_D_hasTurn.2.1 76 = .ok (.iconst 0, 1) := by decide +kernel
theorem d_D_hasTurn_77 : decode m_D_hasTurn.2.1 77 = .ok (.ireturn, 1) := by decide +kernel
theorem d_D_work_0 : decode m_D_work.2.1 0 = .ok (.aload_n 0, 1) := by decide +kernel
theorem d_D_work_1 : decode m_D_work.2.1 1 = .ok (.getfield 57, 3) := by decide +kernel
theorem d_D_work_4 : decode m_D_work.2.1 4 = .ok (.astore_n 1, 1) := by decide +kernel
theorem d_D_work_5 : decode m_D_work.2.1 5 = .ok (.aload_n 1, 1) := by decide +kernel
theorem d_D_work_6 : decode m_D_work.2.1 6 = .ok (.ifnonnull 4, 3) := by decide +kernel
theorem d_D_work_9 : decode m_D_work.2.1 9 = .ok (.return_, 1) := by decide +kernel
theorem d_D_work_10 : decode m_D_work.2.1 10 = .ok (.aload_n 0, 1) := by decide +kernel
theorem d_D_work_11 : decode m_D_work.2.1 11 = .ok (.dup, 1) := by decide +kernel
theorem d_D_work_12 : decode m_D_work.2.1 12 = .ok (.getfield 61, 3) := by decide +kernel
theorem d_D_work_15 : decode m_D_work.2.1 15 = .ok (.iconst 1, 1) := by decide +kernel
theorem d_D_work_16 : decode m_D_work.2.1 16 = .ok (.isub, 1) := by decide +kernel
theorem d_D_work_17 : decode m_D_work.2.1 17 = .ok (.putfield 61, 3) := by decide +kernel
theorem d_D_work_20 : decode m_D_work.2.1 20 = .ok (.aload_n 0, 1) := by decide +kernel
theorem d_D_work_21 : decode m_D_work.2.1 21 = .ok (.dup, 1) := by decide +kernel
theorem d_D_work_22 : decode m_D_work.2.1 22 = .ok (.getfield 51, 3) := by decide +kernel
theorem d_D_work_25 : decode m_D_work.2.1 25 = .ok (.iconst 1, 1) := by decide +kernel
theorem d_D_work_26 : decode m_D_work.2.1 26 = .ok (.iadd, 1) := by decide +kernel
theorem d_D_work_27 : decode m_D_work.2.1 27 = .ok (.putfield 51, 3) := by decide +kernel
theorem d_D_work_30 : decode m_D_work.2.1 30 = .ok (.aload_n 1, 1) := by decide +kernel
theorem d_D_work_31 : decode m_D_work.2.1 31 = .ok (.dup, 1) := by decide +kernel
theorem d_D_work_32 : decode m_D_work.2.1 32 = .ok (.getfield 132, 3) := by decide +kernel
theorem d_D_work_35 : decode m_D_work.2.1 35 = .ok (.iconst 1, 1) := by decide +kernel
theorem d_D_work_36 : decode m_D_work.2.1 36 = .ok (.iadd, 1) := by decide +kernel
theorem d_D_work_37 : decode m_D_work.2.1 37 = .ok (.putfield 132, 3) := by decide +kernel
theorem d_D_work_40 : decode m_D_work.2.1 40 = .ok (.aload_n 1, 1) := by decide +kernel
theorem d_D_work_41 : decode m_D_work.2.1 41 = .ok (.getfield 123, 3) := by decide +kernel
theorem d_D_work_44 : decode m_D_work.2.1 44 = .ok (.iconst 1, 1) := by decide +kernel
theorem d_D_work_45 : decode m_D_work.2.1 45 = .ok (.if_icmp .ne 34, 3) := by decide +kernel
theorem d_D_work_48 : decode m_D_work.2.1 48 = .ok (.aload_n 1, 1) := by decide +kernel
theorem d_D_work_49 : decode m_D_work.2.1 49 = .ok (.getfield 117, 3) := by decide +kernel
theorem d_D_work_52 : decode m_D_work.2.1 52 = .ok (.ifCond .ne 27, 3) := by decide +kernel
theorem d_D_work_55 : decode m_D_work.2.1 55 = .ok (.aload_n 1, 1) := by decide +kernel
theorem d_D_work_56 : decode m_D_work.2.1 56 = .ok (.iconst 2, 1) := by decide +kernel
theorem d_D_work_57 : decode m_D_work.2.1 57 = .ok (.putfield 123, 3) := by decide +kernel
theorem d_D_work_60 : decode m_D_work.2.1 60 = .ok (.aload_n 1, 1) := by decide +kernel
theorem d_D_work_61 : decode m_D_work.2.1 61 = .ok (.new 141, 3) := by decide +kernel
theorem d_D_work_64 : decode m_D_work.2.1 64 = .ok (.dup, 1) := by decide +kernel
theorem d_D_work_65 : decode m_D_work.2.1 65 = .ok (.iconst 3, 1) := by decide +kernel
theorem d_D_work_66 : decode m_D_work.2.1 66 = .ok (.aload_n 1, 1) := by decide +kernel
theorem d_D_work_67 : decode m_D_work.2.1 67 = .ok (.getfield 193, 3) := by decide +kernel
theorem d_D_work_70 : decode m_D_work.2.1 70 = .ok (.invokespecial 196, 3) := by decide +kernel
theorem d_D_work_73 : decode m_D_work.2.1 73 = .ok (.invokevirtual 199, 3) := by decide +kernel
theorem d_D_work_76 : decode m_D_work.2.1 76 = .ok (.goto 49, 3) := by decide +kernel
theorem d_D_work_79 : decode m_D_work.2.1 79 = .ok (.aload_n 1, 1) := by decide +kernel
theorem d_D_work_80 : decode m_D_work.2.1 80 = .ok (.getfield 203, 3) := by decide +kernel
theorem d_D_work_83 : decode m_D_work.2.1 83 = .ok (.ifnull 19, 3) := by decide +kernel
theorem d_D_work_86 : decode m_D_work.2.1 86 = .ok (.aload_n 0, 1) := by decide +kernel
theorem d_D_work_87 : decode m_D_work.2.1 87 = .ok (.aload_n 1, 1) := by decide +kernel
theorem d_D_work_88 : decode m_D_work.2.1 88 = .ok (.aload_n 1, 1) := by decide +kernel
theorem d_D_work_89 : decode m_D_work.2.1 89 = .ok (.getfield 203, 3) := by decide +kernel
theorem d_D_work_92 : decode m_D_work.2.1 92 = .ok (.aload_n 1, 1) := by decide +kernel
theorem d_D_work_93 : decode m_D_work.2.1 93 = .ok (.getfield 207, 3) := by decide +kernel
theorem d_D_work_96 : decode m_D_work.2.1 96 = .ok (.invokevirtual 210, 3) := by decide +kernel
theorem d_D_work_99 : decode m_D_work.2.1 99 = .ok (.goto 26, 3) := by decide +kernel
theorem d_D_work_102 : decode m_D_work.2.1 102 = .ok (.aload_n 1, 1) := by decide +kernel
theorem d_D_work_103 : decode m_D_work.2.1 103 = .ok (.getfield 214, 3) := by decide +kernel
theorem d_D_work_106 : decode m_D_work.2.1 106 = .ok (.ifnull 14, 3) := by decide +kernel
theorem d_D_work_109 : decode m_D_work.2.1 109 = .ok (.aload_n 1, 1) := by decide +kernel
theorem d_D_work_110 : decode m_D_work.2.1 110 = .ok (.aload_n 1, 1) := by decide +kernel
theorem d_D_work_111 : decode m_D_work.2.1 111 = .ok (.getfield 214, 3) := by decide +kernel
theorem d_D_work_114 : decode m_D_work.2.1 114 = .ok (.invokevirtual 218, 3) := by decide +kernel
theorem d_D_work_117 : decode m_D_work.2.1 117 = .ok (.goto 8, 3) := by decide +kernel
theorem d_D_work_120 : decode m_D_work.2.1 120 = .ok (.aload_n 0, 1) := by decide +kernel
theorem d_D_work_121 : decode m_D_work.2.1 121 = .ok (.aload_n 1, 1) := by decide +kernel
theorem d_D_work_122 : decode m_D_work.2.1 122 = .ok (.invokevirtual 222, 3) := by decide +kernel
theorem d_D_work_125 : decode m_D_work.2.1 125 = .ok (.aload_n 1, 1) := by decide +kernel
theorem d_D_work_126 : decode m_D_work.2.1 126 = .ok (.invokevirtual 114, 3) := by decide +kernel
theorem d_D_work_129 : decode m_D_work.2.1 129 = .ok (.ifCond .eq 11, 3) := by decide +kernel
theorem d_D_work_132 : decode m_D_work.2.1 132 = .ok (.aload_n 0, 1) := by decide +kernel
theorem d_D_work_133 : decode m_D_work.2.1 133 = .ok (.aconst_null, 1) := by decide +kernel
theorem d_D_work_134 : decode m_D_work.2.1 134 = .ok (.putfield 57, 3) := by decide +kernel
theorem d_D_work_137 : decode m_D_work.2.1 137 = .ok (.goto 26, 3) := by decide +kernel
theorem d_D_work_140 : decode m_D_work.2.1 140 = .ok (.aload_n 0, 1) := by decide +kernel
theorem d_D_work_141 : decode m_D_work.2.1 141 = .ok (.getfield 61, 3) := by decide +kernel
theorem d_D_work_144 : decode m_D_work.2.1 144 = .ok (.ifCond .gt 19, 3) := by decide +kernel
theorem d_D_work_147 : decode m_D_work.2.1 147 = .ok (.aload_n 0, 1) := by decide +kernel
theorem d_D_work_148 : decode m_D_work.2.1 148 = .ok (.aconst_null, 1) := by decide +kernel
theorem d_D_work_149 : decode m_D_work.2.1 149 = .ok (.putfield 57, 3) := by decide +kernel
theorem d_D_work_152 : decode m_D_work.2.1 152 = .ok (.aload_n 0, 1) := by decide +kernel
theorem d_D_work_153 : decode m_D_work.2.1 153 = .ok (.getfield 31, 3) := by decide +kernel
theorem d_D_work_156 : decode m_D_work.2.1 156 = .ok (.aload_n 1, 1) := by decide +kernel
theorem d_D_work_157 : decode m_D_work.2.1 157 = .ok (.getfield 173, 3) := by decide +kernel
theorem d_D_work_160 : decode m_D_work.2.1 160 = .ok (.invokevirtual 226, 3) := by decide +kernel
theorem d_D_work_163 : decode m_D_work.2.1 163 = .ok (.return_, 1) := by decide +kernel
theorem d_D_wakeSleepers_0 : decode m_D_wakeSleepers.2.1 0 = .ok (.iconst 0, 1) := by decide +kernel
theorem d_D_wakeSleepers_1 : decode m_D_wakeSleepers.2.1 1 = .ok (.istore_n 1, 1) := by decide +kernel
theorem d_D_wakeSleepers_2 : decode m_D_wakeSleepers.2.1 2 = .ok (.iconst 0, 1) := by decide +kernel
theorem d_D_wakeSleepers_3 : decode m_D_wakeSleepers.2.1 3 = .ok (.istore_n 2, 1) := by decide +kernel
theorem d_D_wakeSleepers_4 : decode m_D_wakeSleepers.2.1 4 = .ok (.iconst 0, 1) := by decide +kernel
theorem d_D_wakeSleepers_5 : decode m_D_wakeSleepers.2.1 5 = .ok (.istore_n 3, 1) := by decide +kernel
theorem d_D_wakeSleepers_6 : decode m_D_wakeSleepers.2.1 6 = .ok (.iload_n 3, 1) := by decide +kernel
theorem d_D_wakeSleepers_7 : decode m_D_wakeSleepers.2.1 7 = .ok (.aload_n 0, 1) := by decide +kernel
theorem d_D_wakeSleepers_8 : decode m_D_wakeSleepers.2.1 8 = .ok (.getfield 25, 3) := by decide +kernel
theorem d_D_wakeSleepers_11 : decode m_D_wakeSleepers.2.1 11 = .ok (.if_icmp .ge 51, 3) := by decide +kernel
theorem d_D_wakeSleepers_14 : decode m_D_wakeSleepers.2.1 14 = .ok (.aload_n 0, 1) := by decide +kernel
theorem d_D_wakeSleepers_15 : decode m_D_wakeSleepers.2.1 15 = .ok (.iload_n 3, 1) := by decide +kernel
theorem d_D_wakeSleepers_16 : decode m_D_wakeSleepers.2.1 16 = .ok (.invokevirtual 94, 3) := by decide +kernel
theorem d_D_wakeSleepers_19 : decode m_D_wakeSleepers.2.1 19 = .ok (.astore 4, 2) := by decide +kernel
theorem d_D_wakeSleepers_21 : decode m_D_wakeSleepers.2.1 21 = .ok (.aload 4, 2) := by decide +kernel
theorem d_D_wakeSleepers_23 : decode m_D_wakeSleepers.2.1 23 = .ok (.ifnull 33, 3) := by decide +kernel
theorem d_D_wakeSleepers_26 : decode m_D_wakeSleepers.2.1 26 = .ok (.aload 4, 2) := by decide +kernel
theorem d_D_wakeSleepers_28 : decode m_D_wakeSleepers.2.1 28 = .ok (.getfield 133, 3) := by decide +kernel
theorem d_D_wakeSleepers_31 : decode m_D_wakeSleepers.2.1 31 = .ok (.iconst 4, 1) := by decide +kernel
theorem d_D_wakeSleepers_32 : decode m_D_wakeSleepers.2.1 32 = .ok (.if_icmp .ne 24, 3) := by decide +kernel
theorem d_D_wakeSleepers_35 : decode m_D_wakeSleepers.2.1 35 = .ok (.iload_n 1, 1) := by decide +kernel
theorem d_D_wakeSleepers_36 : decode m_D_wakeSleepers.2.1 36 = .ok (.ifCond .eq 12, 3) := by decide +kernel
theorem d_D_wakeSleepers_39 : decode m_D_wakeSleepers.2.1 39 = .ok (.aload 4, 2) := by decide +kernel
theorem d_D_wakeSleepers_41 : decode m_D_wakeSleepers.2.1 41 = .ok (.getfield 230, 3) := by decide +kernel
theorem d_D_wakeSleepers_44 : decode m_D_wakeSleepers.2.1 44 = .ok (.iload_n 2, 1) := by decide +kernel
theorem d_D_wakeSleepers_45 : decode m_D_wakeSleepers.2.1 45 = .ok (.if_icmp .ge 11, 3) := by decide +kernel
theorem d_D_wakeSleepers_48 : decode m_D_wakeSleepers.2.1 48 = .ok (.iconst 1, 1) := by decide +kernel
theorem d_D_wakeSleepers_49 : decode m_D_wakeSleepers.2.1 49 = .ok (.istore_n 1, 1) := by decide +kernel
theorem d_D_wakeSleepers_50 : decode m_D_wakeSleepers.2.1 50 = .ok (.aload 4, 2) := by decide +kernel
theorem d_D_wakeSleepers_52 : decode m_D_wakeSleepers.2.1 52 = .ok (.getfield 230, 3) := by decide +kernel
theorem d_D_wakeSleepers_55 : decode m_D_wakeSleepers.2.1 55 = .ok (.istore_n 2, 1) := by decide +kernel
theorem d_D_wakeSleepers_56 : decode m_D_wakeSleepers.2.1 56 = .ok (.iinc 3 1, 3) := by decide +kernel
theorem d_D_wakeSleepers_59 : decode m_D_wakeSleepers.2.1 59 = .ok (.goto (-53), 3) := by decide +kernel
theorem d_D_wakeSleepers_62 : decode m_D_wakeSleepers.2.1 62 = .ok (.iload_n 1, 1) := by decide +kernel
theorem d_D_wakeSleepers_63 : decode m_D_wakeSleepers.2.1 63 = .ok (.ifCond .ne 4, 3) := by decide +kernel
theorem d_D_wakeSleepers_66 : decode m_D_wakeSleepers.2.1 66 = .ok (.return_, 1) := by decide +kernel
theorem d_D_wakeSleepers_67 : decode m_D_wakeSleepers.2.1 67 = .ok (.aload_n 0, 1) := by decide +kernel
theorem d_D_wakeSleepers_68 : decode m_D_wakeSleepers.2.1 68 = .ok (.iload_n 2, 1) := by decide +kernel
theorem d_D_wakeSleepers_69 : decode m_D_wakeSleepers.2.1 69 = .ok (.putfield 48, 3) := by decide +kernel
theorem d_D_wakeSleepers_72 : decode m_D_wakeSleepers.2.1 72 = .ok (.iconst 0, 1) := by decide +kernel
theorem d_D_wakeSleepers_73 : decode m_D_wakeSleepers.2.1 73 = .ok (.istore_n 3, 1) := by decide +kernel
theorem d_D_wakeSleepers_74 : decode m_D_wakeSleepers.2.1 74 = .ok (.iload_n 3, 1) := by decide +kernel
theorem d_D_wakeSleepers_75 : decode m_D_wakeSleepers.2.1 75 = .ok (.aload_n 0, 1) := by decide +kernel
theorem d_D_wakeSleepers_76 : decode m_D_wakeSleepers.2.1 76 = .ok (.getfield 25, 3) := by decide +kernel
theorem d_D_wakeSleepers_79 : decode m_D_wakeSleepers.2.1 79 = .ok (.if_icmp .ge 45, 3) := by decide +kernel
theorem d_D_wakeSleepers_82 : decode m_D_wakeSleepers.2.1 82 = .ok (.aload_n 0, 1) := by decide +kernel
theorem d_D_wakeSleepers_83 : decode m_D_wakeSleepers.2.1 83 = .ok (.iload_n 3, 1) := by decide +kernel
theorem d_D_wakeSleepers_84 : decode m_D_wakeSleepers.2.1 84 = .ok (.invokevirtual 94, 3) := by decide +kernel
theorem d_D_wakeSleepers_87 : decode m_D_wakeSleepers.2.1 87 = .ok (.astore 4, 2) := by decide +kernel
theorem d_D_wakeSleepers_89 : decode m_D_wakeSleepers.2.1 89 = .ok (.aload 4, 2) := by decide +kernel
theorem d_D_wakeSleepers_91 : decode m_D_wakeSleepers.2.1 91 = .ok (.ifnull 27, 3) := by decide +kernel
theorem d_D_wakeSleepers_94 : decode m_D_wakeSleepers.2.1 94 = .ok (.aload 4, 2) := by decide +kernel
theorem d_D_wakeSleepers_96 : decode m_D_wakeSleepers.2.1 96 = .ok (.getfield 133, 3) := by decide +kernel
theorem d_D_wakeSleepers_99 : decode m_D_wakeSleepers.2.1 99 = .ok (.iconst 4, 1) := by decide +kernel
theorem d_D_wakeSleepers_100 : decode m_D_wakeSleepers.2.1 100 = .ok (.if_icmp .ne 18, 3) := by decide +kernel
theorem d_D_wakeSleepers_103 : decode m_D_wakeSleepers.2.1 103 = .ok (.aload 4, 2) := by decide +kernel
theorem d_D_wakeSleepers_105 : decode m_D_wakeSleepers.2.1 105 = .ok (.getfield 230, 3) := by decide +kernel
theorem d_D_wakeSleepers_108 : decode m_D_wakeSleepers.2.1 108 = .ok (.iload_n 2, 1) := by decide +kernel
theorem d_D_wakeSleepers_109 : decode m_D_wakeSleepers.2.1 109 = .ok (.if_icmp .ne 9, 3) := by decide +kernel
theorem d_D_wakeSleepers_112 : decode m_D_wakeSleepers.2.1 112 = .ok (.aload_n 0, 1) := by decide +kernel
theorem d_D_wakeSleepers_113 : decode m_D_wakeSleepers.2.1 113 = .ok (.aload 4, 2) := by decide +kernel
theorem d_D_wakeSleepers_115 : decode m_D_wakeSleepers.2.1 115 = .ok (.invokevirtual 233, 3) := by decide +kernel
theorem d_D_wakeSleepers_118 : decode m_D_wakeSleepers.2.1 118 = .ok (.iinc 3 1, 3) := by decide +kernel
theorem d_D_wakeSleepers_121 : decode m_D_wakeSleepers.2.1 121 = .ok (.goto (-47), 3) := by decide +kernel
theorem d_D_wakeSleepers_124 : decode m_D_wakeSleepers.2.1 124 = .ok (.return_, 1) := by decide +kernel
theorem d_D_goOn_0 : decode m_D_goOn.2.1 0 = .ok (.aload_n 1, 1) := by decide +kernel
theorem d_D_goOn_1 : decode m_D_goOn.2.1 1 = .ok (.iconst 0, 1) := by decide +kernel
theorem d_D_goOn_2 : decode m_D_goOn.2.1 2 = .ok (.putfield 133, 3) := by decide +kernel
theorem d_D_goOn_5 : decode m_D_goOn.2.1 5 = .ok (.aload_n 0, 1) := by decide +kernel
theorem d_D_goOn_6 : decode m_D_goOn.2.1 6 = .ok (.getfield 31, 3) := by decide +kernel
theorem d_D_goOn_9 : decode m_D_goOn.2.1 9 = .ok (.aload_n 1, 1) := by decide +kernel
theorem d_D_goOn_10 : decode m_D_goOn.2.1 10 = .ok (.getfield 173, 3) := by decide +kernel
theorem d_D_goOn_13 : decode m_D_goOn.2.1 13 = .ok (.invokevirtual 226, 3) := by decide +kernel
theorem d_D_goOn_16 : decode m_D_goOn.2.1 16 = .ok (.return_, 1) := by decide +kernel
theorem d_D_begin_0 : decode m_D_begin.2.1 0 = .ok (.aload_n 2, 1) := by decide +kernel
theorem d_D_begin_1 : decode m_D_begin.2.1 1 = .ok (.getfield 236, 3) := by decide +kernel
theorem d_D_begin_4 : decode m_D_begin.2.1 4 = .ok (.tableswitch 286 0 25 #[120, 131, 144, 163, 286, 286, 286, 286, 286, 286, 286, 174, 186, 196, 205, 214, 224, 237, 250, 286, 286, 286, 286, 286, 286, 263], 120) := by decide +kernel
theorem d_D_begin_124 : decode m_D_begin.2.1 124 = .ok (.aload_n 1, 1) := by decide +kernel
theorem d_D_begin_125 : decode m_D_begin.2.1 125 = .ok (.aload_n 2, 1) := by decide +kernel
theorem d_D_begin_126 : decode m_D_begin.2.1 126 = .ok (.getfield 239, 3) := by decide +kernel
theorem d_D_begin_129 : decode m_D_begin.2.1 129 = .ok (.invokevirtual 242, 3) := by decide +kernel
theorem d_D_begin_132 : decode m_D_begin.2.1 132 = .ok (.goto 184, 3) := by decide +kernel
theorem d_D_begin_135 : decode m_D_begin.2.1 135 = .ok (.aload_n 1, 1) := by decide +kernel
theorem d_D_begin_136 : decode m_D_begin.2.1 136 = .ok (.iload_n 3, 1) := by decide +kernel
theorem d_D_begin_137 : decode m_D_begin.2.1 137 = .ok (.aload_n 2, 1) := by decide +kernel
theorem d_D_begin_138 : decode m_D_begin.2.1 138 = .ok (.getfield 239, 3) := by decide +kernel
theorem d_D_begin_141 : decode m_D_begin.2.1 141 = .ok (.iadd, 1) := by decide +kernel
theorem d_D_begin_142 : decode m_D_begin.2.1 142 = .ok (.invokevirtual 242, 3) := by decide +kernel
theorem d_D_begin_145 : decode m_D_begin.2.1 145 = .ok (.goto 171, 3) := by decide +kernel
theorem d_D_begin_148 : decode m_D_begin.2.1 148 = .ok (.aload_n 1, 1) := by decide +kernel
theorem d_D_begin_149 : decode m_D_begin.2.1 149 = .ok (.new 141, 3) := by decide +kernel
theorem d_D_begin_152 : decode m_D_begin.2.1 152 = .ok (.dup, 1) := by decide +kernel
theorem d_D_begin_153 : decode m_D_begin.2.1 153 = .ok (.iconst 1, 1) := by decide +kernel
theorem d_D_begin_154 : decode m_D_begin.2.1 154 = .ok (.aload_n 2, 1) := by decide +kernel
theorem d_D_begin_155 : decode m_D_begin.2.1 155 = .ok (.getfield 239, 3) := by decide +kernel
theorem d_D_begin_158 : decode m_D_begin.2.1 158 = .ok (.invokespecial 196, 3) := by decide +kernel
theorem d_D_begin_161 : decode m_D_begin.2.1 161 = .ok (.invokevirtual 199, 3) := by decide +kernel
theorem d_D_begin_164 : decode m_D_begin.2.1 164 = .ok (.goto 152, 3) := by decide +kernel
theorem d_D_begin_167 : decode m_D_begin.2.1 167 = .ok (.aload_n 1, 1) := by decide +kernel
theorem d_D_begin_168 : decode m_D_begin.2.1 168 = .ok (.aload_n 2, 1) := by decide +kernel
theorem d_D_begin_169 : decode m_D_begin.2.1 169 = .ok (.getfield 239, 3) := by decide +kernel
theorem d_D_begin_172 : decode m_D_begin.2.1 172 = .ok (.invokevirtual 245, 3) := by decide +kernel
theorem d_D_begin_175 : decode m_D_begin.2.1 175 = .ok (.goto 141, 3) := by decide +kernel
theorem d_D_begin_178 : decode m_D_begin.2.1 178 = .ok (.aload_n 1, 1) := by decide +kernel
theorem d_D_begin_179 : decode m_D_begin.2.1 179 = .ok (.aload_n 2, 1) := by decide +kernel
theorem d_D_begin_180 : decode m_D_begin.2.1 180 = .ok (.getfield 248, 3) := by decide +kernel
theorem d_D_begin_183 : decode m_D_begin.2.1 183 = .ok (.iload_n 3, 1) := by decide +kernel
theorem d_D_begin_184 : decode m_D_begin.2.1 184 = .ok (.invokevirtual 251, 3) := by decide +kernel
theorem d_D_begin_187 : decode m_D_begin.2.1 187 = .ok (.goto 129, 3) := by decide +kernel
theorem d_D_begin_190 : decode m_D_begin.2.1 190 = .ok (.aload_n 0, 1) := by decide +kernel
theorem d_D_begin_191 : decode m_D_begin.2.1 191 = .ok (.aload_n 1, 1) := by decide +kernel
theorem d_D_begin_192 : decode m_D_begin.2.1 192 = .ok (.aload_n 2, 1) := by decide +kernel
theorem d_D_begin_193 : decode m_D_begin.2.1 193 = .ok (.iload_n 3, 1) := by decide +kernel
theorem d_D_begin_194 : decode m_D_begin.2.1 194 = .ok (.invokevirtual 255, 3) := by decide +kernel
theorem d_D_begin_197 : decode m_D_begin.2.1 197 = .ok (.goto 119, 3) := by decide +kernel
theorem d_D_begin_200 : decode m_D_begin.2.1 200 = .ok (.aload_n 0, 1) := by decide +kernel
theorem d_D_begin_201 : decode m_D_begin.2.1 201 = .ok (.aload_n 1, 1) := by decide +kernel
theorem d_D_begin_202 : decode m_D_begin.2.1 202 = .ok (.iload_n 3, 1) := by decide +kernel
theorem d_D_begin_203 : decode m_D_begin.2.1 203 = .ok (.invokevirtual 258, 3) := by decide +kernel
theorem d_D_begin_206 : decode m_D_begin.2.1 206 = .ok (.goto 110, 3) := by decide +kernel
theorem d_D_begin_209 : decode m_D_begin.2.1 209 = .ok (.aload_n 0, 1) := by decide +kernel
theorem d_D_begin_210 : decode m_D_begin.2.1 210 = .ok (.aload_n 1, 1) := by decide +kernel
theorem d_D_begin_211 : decode m_D_begin.2.1 211 = .ok (.iload_n 3, 1) := by decide +kernel
theorem d_D_begin_212 : decode m_D_begin.2.1 212 = .ok (.invokevirtual 261, 3) := by decide +kernel
theorem d_D_begin_215 : decode m_D_begin.2.1 215 = .ok (.goto 101, 3) := by decide +kernel
theorem d_D_begin_218 : decode m_D_begin.2.1 218 = .ok (.aload_n 0, 1) := by decide +kernel
theorem d_D_begin_219 : decode m_D_begin.2.1 219 = .ok (.aload_n 1, 1) := by decide +kernel
theorem d_D_begin_220 : decode m_D_begin.2.1 220 = .ok (.aload_n 2, 1) := by decide +kernel
theorem d_D_begin_221 : decode m_D_begin.2.1 221 = .ok (.iload_n 3, 1) := by decide +kernel
theorem d_D_begin_222 : decode m_D_begin.2.1 222 = .ok (.invokevirtual 264, 3) := by decide +kernel
theorem d_D_begin_225 : decode m_D_begin.2.1 225 = .ok (.goto 91, 3) := by decide +kernel
theorem d_D_begin_228 : decode m_D_begin.2.1 228 = .ok (.aload_n 0, 1) := by decide +kernel
theorem d_D_begin_229 : decode m_D_begin.2.1 229 = .ok (.aload_n 1, 1) := by decide +kernel
theorem d_D_begin_230 : decode m_D_begin.2.1 230 = .ok (.aload_n 2, 1) := by decide +kernel
theorem d_D_begin_231 : decode m_D_begin.2.1 231 = .ok (.getfield 239, 3) := by decide +kernel
theorem d_D_begin_234 : decode m_D_begin.2.1 234 = .ok (.iload_n 3, 1) := by decide +kernel
theorem d_D_begin_235 : decode m_D_begin.2.1 235 = .ok (.invokevirtual 267, 3) := by decide +kernel
theorem d_D_begin_238 : decode m_D_begin.2.1 238 = .ok (.goto 78, 3) := by decide +kernel
theorem d_D_begin_241 : decode m_D_begin.2.1 241 = .ok (.aload_n 1, 1) := by decide +kernel
theorem d_D_begin_242 : decode m_D_begin.2.1 242 = .ok (.iload_n 3, 1) := by decide +kernel
theorem d_D_begin_243 : decode m_D_begin.2.1 243 = .ok (.invokevirtual 242, 3) := by decide +kernel
theorem d_D_begin_246 : decode m_D_begin.2.1 246 = .ok (.aload_n 0, 1) := by decide +kernel
theorem d_D_begin_247 : decode m_D_begin.2.1 247 = .ok (.iconst 0, 1) := by decide +kernel
theorem d_D_begin_248 : decode m_D_begin.2.1 248 = .ok (.putfield 61, 3) := by decide +kernel
theorem d_D_begin_251 : decode m_D_begin.2.1 251 = .ok (.goto 65, 3) := by decide +kernel
theorem d_D_begin_254 : decode m_D_begin.2.1 254 = .ok (.aload_n 1, 1) := by decide +kernel
theorem d_D_begin_255 : decode m_D_begin.2.1 255 = .ok (.iload_n 3, 1) := by decide +kernel
theorem d_D_begin_256 : decode m_D_begin.2.1 256 = .ok (.invokevirtual 242, 3) := by decide +kernel
theorem d_D_begin_259 : decode m_D_begin.2.1 259 = .ok (.aload_n 0, 1) := by decide +kernel
theorem d_D_begin_260 : decode m_D_begin.2.1 260 = .ok (.iload_n 3, 1) := by decide +kernel
theorem d_D_begin_261 : decode m_D_begin.2.1 261 = .ok (.invokevirtual 271, 3) := by decide +kernel
theorem d_D_begin_264 : decode m_D_begin.2.1 264 = .ok (.goto 52, 3) := by decide +kernel
theorem d_D_begin_267 : decode m_D_begin.2.1 267 = .ok (.aload_n 1, 1) := by decide +kernel
theorem d_D_begin_268 : decode m_D_begin.2.1 268 = .ok (.iload_n 3, 1) := by decide +kernel
theorem d_D_begin_269 : decode m_D_begin.2.1 269 = .ok (.ifCond .eq 10, 3) := by decide +kernel
theorem d_D_begin_272 : decode m_D_begin.2.1 272 = .ok (.aload_n 2, 1) := by decide +kernel
theorem d_D_begin_273 : decode m_D_begin.2.1 273 = .ok (.getfield 248, 3) := by decide +kernel
theorem d_D_begin_276 : decode m_D_begin.2.1 276 = .ok (.goto 7, 3) := by decide +kernel
theorem d_D_begin_279 : decode m_D_begin.2.1 279 = .ok (.aload_n 2, 1) := by decide +kernel
theorem d_D_begin_280 : decode m_D_begin.2.1 280 = .ok (.getfield 274, 3) := by decide +kernel
theorem d_D_begin_283 : decode m_D_begin.2.1 283 = .ok (.iload_n 3, 1) := by decide +kernel
theorem d_D_begin_284 : decode m_D_begin.2.1 284 = .ok (.invokevirtual 277, 3) := by decide +kernel
theorem d_D_begin_287 : decode m_D_begin.2.1 287 = .ok (.goto 29, 3) := by decide +kernel
theorem d_D_begin_290 : decode m_D_begin.2.1 290 = .ok (.aload_n 2, 1) := by decide +kernel
theorem d_D_begin_291 : decode m_D_begin.2.1 291 = .ok (.getfield 236, 3) := by decide +kernel
theorem d_D_begin_294 : decode m_D_begin.2.1 294 = .ok (.invokestatic 179, 3) := by decide +kernel
theorem d_D_begin_297 : decode m_D_begin.2.1 297 = .ok (.ifCond .eq 13, 3) := by decide +kernel
theorem d_D_begin_300 : decode m_D_begin.2.1 300 = .ok (.aload_n 0, 1) := by decide +kernel
theorem d_D_begin_301 : decode m_D_begin.2.1 301 = .ok (.aload_n 1, 1) := by decide +kernel
theorem d_D_begin_302 : decode m_D_begin.2.1 302 = .ok (.aload_n 2, 1) := by decide +kernel
theorem d_D_begin_303 : decode m_D_begin.2.1 303 = .ok (.iload_n 3, 1) := by decide +kernel
theorem d_D_begin_304 : decode m_D_begin.2.1 304 = .ok (.invokevirtual 280, 3) := by decide +kernel
theorem d_D_begin_307 : decode m_D_begin.2.1 307 = .ok (.goto 9, 3) := by decide +kernel
theorem d_D_begin_310 : decode m_D_begin.2.1 310 = .ok (.aload_n 1, 1) := by decide +kernel
theorem d_D_begin_311 : decode m_D_begin.2.1 311 = .ok (.aload_n 2, 1) := by decide +kernel
theorem d_D_begin_312 : decode m_D_begin.2.1 312 = .ok (.iload_n 3, 1) := by decide +kernel
theorem d_D_begin_313 : decode m_D_begin.2.1 313 = .ok (.invokevirtual 283, 3) := by decide +kernel
theorem d_D_begin_316 : decode m_D_begin.2.1 316 = .ok (.return_, 1) := by decide +kernel
theorem d_D_put_0 : decode m_D_put.2.1 0 = .ok (.aload_n 0, 1) := by decide +kernel
theorem d_D_put_1 : decode m_D_put.2.1 1 = .ok (.getfield 45, 3) := by decide +kernel
theorem d_D_put_4 : decode m_D_put.2.1 4 = .ok (.bipush 24, 2) := by decide +kernel
theorem d_D_put_6 : decode m_D_put.2.1 6 = .ok (.if_icmp .ge 13, 3) := by decide +kernel
theorem d_D_put_9 : decode m_D_put.2.1 9 = .ok (.aload_n 0, 1) := by decide +kernel
theorem d_D_put_10 : decode m_D_put.2.1 10 = .ok (.getfield 41, 3) := by decide +kernel
theorem d_D_put_13 : decode m_D_put.2.1 13 = .ok (.aload_n 0, 1) := by decide +kernel
theorem d_D_put_14 : decode m_D_put.2.1 14 = .ok (.getfield 45, 3) := by decide +kernel
theorem d_D_put_17 : decode m_D_put.2.1 17 = .ok (.iload_n 1, 1) := by decide +kernel
theorem d_D_put_18 : decode m_D_put.2.1 18 = .ok (.iastore, 1) := by decide +kernel
theorem d_D_put_19 : decode m_D_put.2.1 19 = .ok (.aload_n 0, 1) := by decide +kernel
theorem d_D_put_20 : decode m_D_put.2.1 20 = .ok (.dup, 1) := by decide +kernel
theorem d_D_put_21 : decode m_D_put.2.1 21 = .ok (.getfield 45, 3) := by decide +kernel
theorem d_D_put_24 : decode m_D_put.2.1 24 = .ok (.iconst 1, 1) := by decide +kernel
theorem d_D_put_25 : decode m_D_put.2.1 25 = .ok (.iadd, 1) := by decide +kernel
theorem d_D_put_26 : decode m_D_put.2.1 26 = .ok (.putfield 45, 3) := by decide +kernel
theorem d_D_put_29 : decode m_D_put.2.1 29 = .ok (.return_, 1) := by decide +kernel
theorem d_D_beginFork_0 : decode m_D_beginFork.2.1 0 = .ok (.aload_n 0, 1) := by decide +kernel
theorem d_D_beginFork_1 : decode m_D_beginFork.2.1 1 = .ok (.getfield 25, 3) := by decide +kernel
theorem d_D_beginFork_4 : decode m_D_beginFork.2.1 4 = .ok (.bipush 10, 2) := by decide +kernel
theorem d_D_beginFork_6 : decode m_D_beginFork.2.1 6 = .ok (.if_icmp .lt 9, 3) := by decide +kernel
theorem d_D_beginFork_9 : decode m_D_beginFork.2.1 9 = .ok (.aload_n 1, 1) := by decide +kernel
theorem d_D_beginFork_10 : decode m_D_beginFork.2.1 10 = .ok (.iconst (-1), 1) := by decide +kernel
theorem d_D_beginFork_11 : decode m_D_beginFork.2.1 11 = .ok (.invokevirtual 245, 3) := by decide +kernel
theorem d_D_beginFork_14 : decode m_D_beginFork.2.1 14 = .ok (.return_, 1) := by decide +kernel
theorem d_D_beginFork_15 : decode m_D_beginFork.2.1 15 = .ok (.aload_n 1, 1) := by decide +kernel
theorem d_D_beginFork_16 : decode m_D_beginFork.2.1 16 = .ok (.aload_n 0, 1) := by decide +kernel
theorem d_D_beginFork_17 : decode m_D_beginFork.2.1 17 = .ok (.getfield 25, 3) := by decide +kernel
theorem d_D_beginFork_20 : decode m_D_beginFork.2.1 20 = .ok (.invokevirtual 242, 3) := by decide +kernel
theorem d_D_beginFork_23 : decode m_D_beginFork.2.1 23 = .ok (.aload_n 0, 1) := by decide +kernel
theorem d_D_beginFork_24 : decode m_D_beginFork.2.1 24 = .ok (.aload_n 2, 1) := by decide +kernel
theorem d_D_beginFork_25 : decode m_D_beginFork.2.1 25 = .ok (.getfield 248, 3) := by decide +kernel
theorem d_D_beginFork_28 : decode m_D_beginFork.2.1 28 = .ok (.iload_n 3, 1) := by decide +kernel
theorem d_D_beginFork_29 : decode m_D_beginFork.2.1 29 = .ok (.aload_n 1, 1) := by decide +kernel
theorem d_D_beginFork_30 : decode m_D_beginFork.2.1 30 = .ok (.getfield 173, 3) := by decide +kernel
theorem d_D_beginFork_33 : decode m_D_beginFork.2.1 33 = .ok (.invokevirtual 79, 3) := by decide +kernel
theorem d_D_beginFork_36 : decode m_D_beginFork.2.1 36 = .ok (.return_, 1) := by decide +kernel
theorem d_D_makeFiber_0 : decode m_D_makeFiber.2.1 0 = .ok (.aload_n 0, 1) := by decide +kernel
theorem d_D_makeFiber_1 : decode m_D_makeFiber.2.1 1 = .ok (.getfield 25, 3) := by decide +kernel
theorem d_D_makeFiber_4 : decode m_D_makeFiber.2.1 4 = .ok (.bipush 10, 2) := by decide +kernel
theorem d_D_makeFiber_6 : decode m_D_makeFiber.2.1 6 = .ok (.if_icmp .lt 4, 3) := by decide +kernel
theorem d_D_makeFiber_9 : decode m_D_makeFiber.2.1 9 = .ok (.return_, 1) := by decide +kernel
theorem d_D_makeFiber_10 : decode m_D_makeFiber.2.1 10 = .ok (.aload_n 0, 1) := by decide +kernel
theorem d_D_makeFiber_11 : decode m_D_makeFiber.2.1 11 = .ok (.getfield 25, 3) := by decide +kernel
theorem d_D_makeFiber_14 : decode m_D_makeFiber.2.1 14 = .ok (.istore 4, 2) := by decide +kernel
theorem d_D_makeFiber_16 : decode m_D_makeFiber.2.1 16 = .ok (.new 19, 3) := by decide +kernel
theorem d_D_makeFiber_19 : decode m_D_makeFiber.2.1 19 = .ok (.dup, 1) := by decide +kernel
theorem d_D_makeFiber_20 : decode m_D_makeFiber.2.1 20 = .ok (.iload 4, 2) := by decide +kernel
theorem d_D_makeFiber_22 : decode m_D_makeFiber.2.1 22 = .ok (.iload_n 3, 1) := by decide +kernel
theorem d_D_makeFiber_23 : decode m_D_makeFiber.2.1 23 = .ok (.invokespecial 286, 3) := by decide +kernel
theorem d_D_makeFiber_26 : decode m_D_makeFiber.2.1 26 = .ok (.astore 5, 2) := by decide +kernel
theorem d_D_makeFiber_28 : decode m_D_makeFiber.2.1 28 = .ok (.aload 5, 2) := by decide +kernel
theorem d_D_makeFiber_30 : decode m_D_makeFiber.2.1 30 = .ok (.aload_n 1, 1) := by decide +kernel
theorem d_D_makeFiber_31 : decode m_D_makeFiber.2.1 31 = .ok (.iload_n 2, 1) := by decide +kernel
theorem d_D_makeFiber_32 : decode m_D_makeFiber.2.1 32 = .ok (.invokevirtual 277, 3) := by decide +kernel
theorem d_D_makeFiber_35 : decode m_D_makeFiber.2.1 35 = .ok (.aload_n 0, 1) := by decide +kernel
theorem d_D_makeFiber_36 : decode m_D_makeFiber.2.1 36 = .ok (.getfield 21, 3) := by decide +kernel
theorem d_D_makeFiber_39 : decode m_D_makeFiber.2.1 39 = .ok (.iload 4, 2) := by decide +kernel
theorem d_D_makeFiber_41 : decode m_D_makeFiber.2.1 41 = .ok (.aload 5, 2) := by decide +kernel
theorem d_D_makeFiber_43 : decode m_D_makeFiber.2.1 43 = .ok (.aastore, 1) := by decide +kernel
theorem d_D_makeFiber_44 : decode m_D_makeFiber.2.1 44 = .ok (.aload_n 0, 1) := by decide +kernel
theorem d_D_makeFiber_45 : decode m_D_makeFiber.2.1 45 = .ok (.dup, 1) := by decide +kernel
theorem d_D_makeFiber_46 : decode m_D_makeFiber.2.1 46 = .ok (.getfield 25, 3) := by decide +kernel
theorem d_D_makeFiber_49 : decode m_D_makeFiber.2.1 49 = .ok (.iconst 1, 1) := by decide +kernel
theorem d_D_makeFiber_50 : decode m_D_makeFiber.2.1 50 = .ok (.iadd, 1) := by decide +kernel
theorem d_D_makeFiber_51 : decode m_D_makeFiber.2.1 51 = .ok (.putfield 25, 3) := by decide +kernel
theorem d_D_makeFiber_54 : decode m_D_makeFiber.2.1 54 = .ok (.aload_n 0, 1) := by decide +kernel
theorem d_D_makeFiber_55 : decode m_D_makeFiber.2.1 55 = .ok (.getfield 31, 3) := by decide +kernel
theorem d_D_makeFiber_58 : decode m_D_makeFiber.2.1 58 = .ok (.iload 4, 2) := by decide +kernel
theorem d_D_makeFiber_60 : decode m_D_makeFiber.2.1 60 = .ok (.invokevirtual 226, 3) := by decide +kernel
theorem d_D_makeFiber_63 : decode m_D_makeFiber.2.1 63 = .ok (.return_, 1) := by decide +kernel
theorem d_D_beginJoin_0 : decode m_D_beginJoin.2.1 0 = .ok (.aload_n 0, 1) := by decide +kernel
theorem d_D_beginJoin_1 : decode m_D_beginJoin.2.1 1 = .ok (.iload_n 2, 1) := by decide +kernel
theorem d_D_beginJoin_2 : decode m_D_beginJoin.2.1 2 = .ok (.invokevirtual 94, 3) := by decide +kernel
theorem d_D_beginJoin_5 : decode m_D_beginJoin.2.1 5 = .ok (.astore_n 3, 1) := by decide +kernel
theorem d_D_beginJoin_6 : decode m_D_beginJoin.2.1 6 = .ok (.aload_n 3, 1) := by decide +kernel
theorem d_D_beginJoin_7 : decode m_D_beginJoin.2.1 7 = .ok (.ifnonnull 12, 3) := by decide +kernel
theorem d_D_beginJoin_10 : decode m_D_beginJoin.2.1 10 = .ok (.aload_n 1, 1) := by decide +kernel
theorem d_D_beginJoin_11 : decode m_D_beginJoin.2.1 11 = .ok (.bipush (-2), 2) := by decide +kernel
theorem d_D_beginJoin_13 : decode m_D_beginJoin.2.1 13 = .ok (.invokevirtual 245, 3) := by decide +kernel
theorem d_D_beginJoin_16 : decode m_D_beginJoin.2.1 16 = .ok (.goto 31, 3) := by decide +kernel
theorem d_D_beginJoin_19 : decode m_D_beginJoin.2.1 19 = .ok (.aload_n 3, 1) := by decide +kernel
theorem d_D_beginJoin_20 : decode m_D_beginJoin.2.1 20 = .ok (.getfield 98, 3) := by decide +kernel
theorem d_D_beginJoin_23 : decode m_D_beginJoin.2.1 23 = .ok (.ifCond .eq 18, 3) := by decide +kernel
theorem d_D_beginJoin_26 : decode m_D_beginJoin.2.1 26 = .ok (.aload_n 1, 1) := by decide +kernel
theorem d_D_beginJoin_27 : decode m_D_beginJoin.2.1 27 = .ok (.aload_n 3, 1) := by decide +kernel
theorem d_D_beginJoin_28 : decode m_D_beginJoin.2.1 28 = .ok (.getfield 129, 3) := by decide +kernel
theorem d_D_beginJoin_31 : decode m_D_beginJoin.2.1 31 = .ok (.aload_n 3, 1) := by decide +kernel
theorem d_D_beginJoin_32 : decode m_D_beginJoin.2.1 32 = .ok (.getfield 136, 3) := by decide +kernel
theorem d_D_beginJoin_35 : decode m_D_beginJoin.2.1 35 = .ok (.invokevirtual 287, 3) := by decide +kernel
theorem d_D_beginJoin_38 : decode m_D_beginJoin.2.1 38 = .ok (.goto 9, 3) := by decide +kernel
theorem d_D_beginJoin_41 : decode m_D_beginJoin.2.1 41 = .ok (.aload_n 1, 1) := by decide +kernel
theorem d_D_beginJoin_42 : decode m_D_beginJoin.2.1 42 = .ok (.iconst 1, 1) := by decide +kernel
theorem d_D_beginJoin_43 : decode m_D_beginJoin.2.1 43 = .ok (.iload_n 2, 1) := by decide +kernel
theorem d_D_beginJoin_44 : decode m_D_beginJoin.2.1 44 = .ok (.invokevirtual 291, 3) := by decide +kernel
theorem d_D_beginJoin_47 : decode m_D_beginJoin.2.1 47 = .ok (.return_, 1) := by decide +kernel
theorem d_D_beginHalt_0 : decode m_D_beginHalt.2.1 0 = .ok (.aload_n 0, 1) := by decide +kernel
theorem d_D_beginHalt_1 : decode m_D_beginHalt.2.1 1 = .ok (.iload_n 2, 1) := by decide +kernel
theorem d_D_beginHalt_2 : decode m_D_beginHalt.2.1 2 = .ok (.invokevirtual 94, 3) := by decide +kernel
theorem d_D_beginHalt_5 : decode m_D_beginHalt.2.1 5 = .ok (.astore_n 3, 1) := by decide +kernel
theorem d_D_beginHalt_6 : decode m_D_beginHalt.2.1 6 = .ok (.aload_n 3, 1) := by decide +kernel
theorem d_D_beginHalt_7 : decode m_D_beginHalt.2.1 7 = .ok (.ifnonnull 10, 3) := by decide +kernel
theorem d_D_beginHalt_10 : decode m_D_beginHalt.2.1 10 = .ok (.aload_n 1, 1) := by decide +kernel
theorem d_D_beginHalt_11 : decode m_D_beginHalt.2.1 11 = .ok (.bipush (-2), 2) := by decide +kernel
theorem d_D_beginHalt_13 : decode m_D_beginHalt.2.1 13 = .ok (.invokevirtual 245, 3) := by decide +kernel
theorem d_D_beginHalt_16 : decode m_D_beginHalt.2.1 16 = .ok (.return_, 1) := by decide +kernel
theorem d_D_beginHalt_17 : decode m_D_beginHalt.2.1 17 = .ok (.aload_n 1, 1) := by decide +kernel
theorem d_D_beginHalt_18 : decode m_D_beginHalt.2.1 18 = .ok (.iconst 0, 1) := by decide +kernel
theorem d_D_beginHalt_19 : decode m_D_beginHalt.2.1 19 = .ok (.invokevirtual 242, 3) := by decide +kernel
theorem d_D_beginHalt_22 : decode m_D_beginHalt.2.1 22 = .ok (.aload_n 0, 1) := by decide +kernel
theorem d_D_beginHalt_23 : decode m_D_beginHalt.2.1 23 = .ok (.aload_n 3, 1) := by decide +kernel
theorem d_D_beginHalt_24 : decode m_D_beginHalt.2.1 24 = .ok (.aload_n 1, 1) := by decide +kernel
theorem d_D_beginHalt_25 : decode m_D_beginHalt.2.1 25 = .ok (.getfield 173, 3) := by decide +kernel
theorem d_D_beginHalt_28 : decode m_D_beginHalt.2.1 28 = .ok (.invokevirtual 102, 3) := by decide +kernel
theorem d_D_beginHalt_31 : decode m_D_beginHalt.2.1 31 = .ok (.aload_n 3, 1) := by decide +kernel
theorem d_D_beginHalt_32 : decode m_D_beginHalt.2.1 32 = .ok (.getfield 98, 3) := by decide +kernel
theorem d_D_beginHalt_35 : decode m_D_beginHalt.2.1 35 = .ok (.ifCond .ne 14, 3) := by decide +kernel
theorem d_D_beginHalt_38 : decode m_D_beginHalt.2.1 38 = .ok (.aload_n 3, 1) := by decide +kernel
theorem d_D_beginHalt_39 : decode m_D_beginHalt.2.1 39 = .ok (.aload_n 1, 1) := by decide +kernel
theorem d_D_beginHalt_40 : decode m_D_beginHalt.2.1 40 = .ok (.if_acmp .eq 9, 3) := by decide +kernel
theorem d_D_beginHalt_43 : decode m_D_beginHalt.2.1 43 = .ok (.aload_n 1, 1) := by decide +kernel
theorem d_D_beginHalt_44 : decode m_D_beginHalt.2.1 44 = .ok (.iconst 2, 1) := by decide +kernel
theorem d_D_beginHalt_45 : decode m_D_beginHalt.2.1 45 = .ok (.iload_n 2, 1) := by decide +kernel
theorem d_D_beginHalt_46 : decode m_D_beginHalt.2.1 46 = .ok (.invokevirtual 291, 3) := by decide +kernel
theorem d_D_beginHalt_49 : decode m_D_beginHalt.2.1 49 = .ok (.return_, 1) := by decide +kernel
theorem d_D_beginRace_0 : decode m_D_beginRace.2.1 0 = .ok (.aload_n 0, 1) := by decide +kernel
theorem d_D_beginRace_1 : decode m_D_beginRace.2.1 1 = .ok (.getfield 25, 3) := by decide +kernel
theorem d_D_beginRace_4 : decode m_D_beginRace.2.1 4 = .ok (.iconst 2, 1) := by decide +kernel
theorem d_D_beginRace_5 : decode m_D_beginRace.2.1 5 = .ok (.iadd, 1) := by decide +kernel
theorem d_D_beginRace_6 : decode m_D_beginRace.2.1 6 = .ok (.bipush 10, 2) := by decide +kernel
theorem d_D_beginRace_8 : decode m_D_beginRace.2.1 8 = .ok (.if_icmp .le 9, 3) := by decide +kernel
theorem d_D_beginRace_11 : decode m_D_beginRace.2.1 11 = .ok (.aload_n 1, 1) := by decide +kernel
theorem d_D_beginRace_12 : decode m_D_beginRace.2.1 12 = .ok (.iconst (-1), 1) := by decide +kernel
theorem d_D_beginRace_13 : decode m_D_beginRace.2.1 13 = .ok (.invokevirtual 245, 3) := by decide +kernel
theorem d_D_beginRace_16 : decode m_D_beginRace.2.1 16 = .ok (.return_, 1) := by decide +kernel
theorem d_D_beginRace_17 : decode m_D_beginRace.2.1 17 = .ok (.aload_n 1, 1) := by decide +kernel
theorem d_D_beginRace_18 : decode m_D_beginRace.2.1 18 = .ok (.iconst 3, 1) := by decide +kernel
theorem d_D_beginRace_19 : decode m_D_beginRace.2.1 19 = .ok (.aload_n 0, 1) := by decide +kernel
theorem d_D_beginRace_20 : decode m_D_beginRace.2.1 20 = .ok (.getfield 25, 3) := by decide +kernel
theorem d_D_beginRace_23 : decode m_D_beginRace.2.1 23 = .ok (.invokevirtual 291, 3) := by decide +kernel
theorem d_D_beginRace_26 : decode m_D_beginRace.2.1 26 = .ok (.aload_n 0, 1) := by decide +kernel
theorem d_D_beginRace_27 : decode m_D_beginRace.2.1 27 = .ok (.aload_n 2, 1) := by decide +kernel
theorem d_D_beginRace_28 : decode m_D_beginRace.2.1 28 = .ok (.getfield 248, 3) := by decide +kernel
theorem d_D_beginRace_31 : decode m_D_beginRace.2.1 31 = .ok (.iload_n 3, 1) := by decide +kernel
theorem d_D_beginRace_32 : decode m_D_beginRace.2.1 32 = .ok (.aload_n 1, 1) := by decide +kernel
theorem d_D_beginRace_33 : decode m_D_beginRace.2.1 33 = .ok (.getfield 173, 3) := by decide +kernel
theorem d_D_beginRace_36 : decode m_D_beginRace.2.1 36 = .ok (.invokevirtual 79, 3) := by decide +kernel
theorem d_D_beginRace_39 : decode m_D_beginRace.2.1 39 = .ok (.aload_n 0, 1) := by decide +kernel
theorem d_D_beginRace_40 : decode m_D_beginRace.2.1 40 = .ok (.aload_n 2, 1) := by decide +kernel
theorem d_D_beginRace_41 : decode m_D_beginRace.2.1 41 = .ok (.getfield 274, 3) := by decide +kernel
theorem d_D_beginRace_44 : decode m_D_beginRace.2.1 44 = .ok (.iload_n 3, 1) := by decide +kernel
theorem d_D_beginRace_45 : decode m_D_beginRace.2.1 45 = .ok (.aload_n 1, 1) := by decide +kernel
theorem d_D_beginRace_46 : decode m_D_beginRace.2.1 46 = .ok (.getfield 173, 3) := by decide +kernel
theorem d_D_beginRace_49 : decode m_D_beginRace.2.1 49 = .ok (.invokevirtual 79, 3) := by decide +kernel
theorem d_D_beginRace_52 : decode m_D_beginRace.2.1 52 = .ok (.return_, 1) := by decide +kernel
theorem d_D_beginSleep_0 : decode m_D_beginSleep.2.1 0 = .ok (.aload_n 1, 1) := by decide +kernel
theorem d_D_beginSleep_1 : decode m_D_beginSleep.2.1 1 = .ok (.iload_n 3, 1) := by decide +kernel
theorem d_D_beginSleep_2 : decode m_D_beginSleep.2.1 2 = .ok (.invokevirtual 242, 3) := by decide +kernel
theorem d_D_beginSleep_5 : decode m_D_beginSleep.2.1 5 = .ok (.iload_n 2, 1) := by decide +kernel
theorem d_D_beginSleep_6 : decode m_D_beginSleep.2.1 6 = .ok (.iconst 1, 1) := by decide +kernel
theorem d_D_beginSleep_7 : decode m_D_beginSleep.2.1 7 = .ok (.if_icmp .lt 25, 3) := by decide +kernel
theorem d_D_beginSleep_10 : decode m_D_beginSleep.2.1 10 = .ok (.aload_n 1, 1) := by decide +kernel
theorem d_D_beginSleep_11 : decode m_D_beginSleep.2.1 11 = .ok (.aload_n 0, 1) := by decide +kernel
theorem d_D_beginSleep_12 : decode m_D_beginSleep.2.1 12 = .ok (.getfield 48, 3) := by decide +kernel
theorem d_D_beginSleep_15 : decode m_D_beginSleep.2.1 15 = .ok (.iload_n 2, 1) := by decide +kernel
theorem d_D_beginSleep_16 : decode m_D_beginSleep.2.1 16 = .ok (.sipush 1000, 3) := by decide +kernel
theorem d_D_beginSleep_19 : decode m_D_beginSleep.2.1 19 = .ok (.invokestatic 294, 3) := by decide +kernel
theorem d_D_beginSleep_22 : decode m_D_beginSleep.2.1 22 = .ok (.iadd, 1) := by decide +kernel
theorem d_D_beginSleep_23 : decode m_D_beginSleep.2.1 23 = .ok (.putfield 230, 3) := by decide +kernel
theorem d_D_beginSleep_26 : decode m_D_beginSleep.2.1 26 = .ok (.aload_n 1, 1) := by decide +kernel
theorem d_D_beginSleep_27 : decode m_D_beginSleep.2.1 27 = .ok (.iconst 4, 1) := by decide +kernel
theorem d_D_beginSleep_28 : decode m_D_beginSleep.2.1 28 = .ok (.iconst (-1), 1) := by decide +kernel
theorem d_D_beginSleep_29 : decode m_D_beginSleep.2.1 29 = .ok (.invokevirtual 291, 3) := by decide +kernel
theorem d_D_beginSleep_32 : decode m_D_beginSleep.2.1 32 = .ok (.return_, 1) := by decide +kernel
theorem d_D_beginAtPlace_0 : decode m_D_beginAtPlace.2.1 0 = .ok (.aload_n 0, 1) := by decide +kernel
theorem d_D_beginAtPlace_1 : decode m_D_beginAtPlace.2.1 1 = .ok (.aload_n 2, 1) := by decide +kernel
theorem d_D_beginAtPlace_2 : decode m_D_beginAtPlace.2.1 2 = .ok (.getfield 239, 3) := by decide +kernel
theorem d_D_beginAtPlace_5 : decode m_D_beginAtPlace.2.1 5 = .ok (.invokevirtual 106, 3) := by decide +kernel
theorem d_D_beginAtPlace_8 : decode m_D_beginAtPlace.2.1 8 = .ok (.astore 4, 2) := by decide +kernel
theorem d_D_beginAtPlace_10 : decode m_D_beginAtPlace.2.1 10 = .ok (.aload 4, 2) := by decide +kernel
theorem d_D_beginAtPlace_12 : decode m_D_beginAtPlace.2.1 12 = .ok (.ifnonnull 4, 3) := by decide +kernel
theorem d_D_beginAtPlace_15 : decode m_D_beginAtPlace.2.1 15 = .ok (.return_, 1) := by decide +kernel
theorem d_D_beginAtPlace_16 : decode m_D_beginAtPlace.2.1 16 = .ok (.aload_n 1, 1) := by decide +kernel
theorem d_D_beginAtPlace_17 : decode m_D_beginAtPlace.2.1 17 = .ok (.iload_n 3, 1) := by decide +kernel
theorem d_D_beginAtPlace_18 : decode m_D_beginAtPlace.2.1 18 = .ok (.invokevirtual 242, 3) := by decide +kernel
theorem d_D_beginAtPlace_21 : decode m_D_beginAtPlace.2.1 21 = .ok (.aload_n 2, 1) := by decide +kernel
theorem d_D_beginAtPlace_22 : decode m_D_beginAtPlace.2.1 22 = .ok (.getfield 236, 3) := by decide +kernel
theorem d_D_beginAtPlace_25 : decode m_D_beginAtPlace.2.1 25 = .ok (.tableswitch 106 19 23 #[35, 47, 56, 70, 92], 35) := by decide +kernel
theorem d_D_beginAtPlace_60 : decode m_D_beginAtPlace.2.1 60 = .ok (.aload_n 1, 1) := by decide +kernel
theorem d_D_beginAtPlace_61 : decode m_D_beginAtPlace.2.1 61 = .ok (.aload 4, 2) := by decide +kernel
theorem d_D_beginAtPlace_63 : decode m_D_beginAtPlace.2.1 63 = .ok (.getfield 155, 3) := by decide +kernel
theorem d_D_beginAtPlace_66 : decode m_D_beginAtPlace.2.1 66 = .ok (.invokevirtual 242, 3) := by decide +kernel
theorem d_D_beginAtPlace_69 : decode m_D_beginAtPlace.2.1 69 = .ok (.goto 68, 3) := by decide +kernel
theorem d_D_beginAtPlace_72 : decode m_D_beginAtPlace.2.1 72 = .ok (.aload 4, 2) := by decide +kernel
theorem d_D_beginAtPlace_74 : decode m_D_beginAtPlace.2.1 74 = .ok (.iload_n 3, 1) := by decide +kernel
theorem d_D_beginAtPlace_75 : decode m_D_beginAtPlace.2.1 75 = .ok (.putfield 155, 3) := by decide +kernel
theorem d_D_beginAtPlace_78 : decode m_D_beginAtPlace.2.1 78 = .ok (.goto 59, 3) := by decide +kernel
theorem d_D_beginAtPlace_81 : decode m_D_beginAtPlace.2.1 81 = .ok (.aload_n 0, 1) := by decide +kernel
theorem d_D_beginAtPlace_82 : decode m_D_beginAtPlace.2.1 82 = .ok (.aload_n 1, 1) := by decide +kernel
theorem d_D_beginAtPlace_83 : decode m_D_beginAtPlace.2.1 83 = .ok (.aload 4, 2) := by decide +kernel
theorem d_D_beginAtPlace_85 : decode m_D_beginAtPlace.2.1 85 = .ok (.aload_n 2, 1) := by decide +kernel
theorem d_D_beginAtPlace_86 : decode m_D_beginAtPlace.2.1 86 = .ok (.getfield 239, 3) := by decide +kernel
theorem d_D_beginAtPlace_89 : decode m_D_beginAtPlace.2.1 89 = .ok (.invokevirtual 300, 3) := by decide +kernel
theorem d_D_beginAtPlace_92 : decode m_D_beginAtPlace.2.1 92 = .ok (.goto 45, 3) := by decide +kernel
theorem d_D_beginAtPlace_95 : decode m_D_beginAtPlace.2.1 95 = .ok (.aload_n 1, 1) := by decide +kernel
theorem d_D_beginAtPlace_96 : decode m_D_beginAtPlace.2.1 96 = .ok (.aload_n 0, 1) := by decide +kernel
theorem d_D_beginAtPlace_97 : decode m_D_beginAtPlace.2.1 97 = .ok (.aload 4, 2) := by decide +kernel
theorem d_D_beginAtPlace_99 : decode m_D_beginAtPlace.2.1 99 = .ok (.iload_n 3, 1) := by decide +kernel
theorem d_D_beginAtPlace_100 : decode m_D_beginAtPlace.2.1 100 = .ok (.invokevirtual 110, 3) := by decide +kernel
theorem d_D_beginAtPlace_103 : decode m_D_beginAtPlace.2.1 103 = .ok (.ifCond .eq 7, 3) := by decide +kernel
theorem d_D_beginAtPlace_106 : decode m_D_beginAtPlace.2.1 106 = .ok (.iconst 1, 1) := by decide +kernel
theorem d_D_beginAtPlace_107 : decode m_D_beginAtPlace.2.1 107 = .ok (.goto 4, 3) := by decide +kernel
theorem d_D_beginAtPlace_110 : decode m_D_beginAtPlace.2.1 110 = .ok (.iconst 0, 1) := by decide +kernel
theorem d_D_beginAtPlace_111 : decode m_D_beginAtPlace.2.1 111 = .ok (.invokevirtual 242, 3) := by decide +kernel
theorem d_D_beginAtPlace_114 : decode m_D_beginAtPlace.2.1 114 = .ok (.goto 23, 3) := by decide +kernel
theorem d_D_beginAtPlace_117 : decode m_D_beginAtPlace.2.1 117 = .ok (.aload_n 0, 1) := by decide +kernel
theorem d_D_beginAtPlace_118 : decode m_D_beginAtPlace.2.1 118 = .ok (.aload_n 1, 1) := by decide +kernel
theorem d_D_beginAtPlace_119 : decode m_D_beginAtPlace.2.1 119 = .ok (.aload 4, 2) := by decide +kernel
theorem d_D_beginAtPlace_121 : decode m_D_beginAtPlace.2.1 121 = .ok (.aload_n 2, 1) := by decide +kernel
theorem d_D_beginAtPlace_122 : decode m_D_beginAtPlace.2.1 122 = .ok (.getfield 239, 3) := by decide +kernel
theorem d_D_beginAtPlace_125 : decode m_D_beginAtPlace.2.1 125 = .ok (.invokevirtual 304, 3) := by decide +kernel
theorem d_D_beginAtPlace_128 : decode m_D_beginAtPlace.2.1 128 = .ok (.goto 9, 3) := by decide +kernel
theorem d_D_beginAtPlace_131 : decode m_D_beginAtPlace.2.1 131 = .ok (.aload_n 0, 1) := by decide +kernel
theorem d_D_beginAtPlace_132 : decode m_D_beginAtPlace.2.1 132 = .ok (.aload 4, 2) := by decide +kernel
theorem d_D_beginAtPlace_134 : decode m_D_beginAtPlace.2.1 134 = .ok (.invokevirtual 307, 3) := by decide +kernel
theorem d_D_beginAtPlace_137 : decode m_D_beginAtPlace.2.1 137 = .ok (.return_, 1) := by decide +kernel
theorem d_D_beginAwait_0 : decode m_D_beginAwait.2.1 0 = .ok (.aload_n 2, 1) := by decide +kernel
theorem d_D_beginAwait_1 : decode m_D_beginAwait.2.1 1 = .ok (.getfield 158, 3) := by decide +kernel
theorem d_D_beginAwait_4 : decode m_D_beginAwait.2.1 4 = .ok (.ifCond .eq 12, 3) := by decide +kernel
theorem d_D_beginAwait_7 : decode m_D_beginAwait.2.1 7 = .ok (.aload_n 1, 1) := by decide +kernel
theorem d_D_beginAwait_8 : decode m_D_beginAwait.2.1 8 = .ok (.aload_n 2, 1) := by decide +kernel
theorem d_D_beginAwait_9 : decode m_D_beginAwait.2.1 9 = .ok (.getfield 161, 3) := by decide +kernel
theorem d_D_beginAwait_12 : decode m_D_beginAwait.2.1 12 = .ok (.invokevirtual 242, 3) := by decide +kernel
theorem d_D_beginAwait_15 : decode m_D_beginAwait.2.1 15 = .ok (.return_, 1) := by decide +kernel
theorem d_D_beginAwait_16 : decode m_D_beginAwait.2.1 16 = .ok (.aload_n 1, 1) := by decide +kernel
theorem d_D_beginAwait_17 : decode m_D_beginAwait.2.1 17 = .ok (.iconst 5, 1) := by decide +kernel
theorem d_D_beginAwait_18 : decode m_D_beginAwait.2.1 18 = .ok (.iload_n 3, 1) := by decide +kernel
theorem d_D_beginAwait_19 : decode m_D_beginAwait.2.1 19 = .ok (.invokevirtual 291, 3) := by decide +kernel
theorem d_D_beginAwait_22 : decode m_D_beginAwait.2.1 22 = .ok (.aload_n 2, 1) := by decide +kernel
theorem d_D_beginAwait_23 : decode m_D_beginAwait.2.1 23 = .ok (.getfield 167, 3) := by decide +kernel
theorem d_D_beginAwait_26 : decode m_D_beginAwait.2.1 26 = .ok (.aload_n 1, 1) := by decide +kernel
theorem d_D_beginAwait_27 : decode m_D_beginAwait.2.1 27 = .ok (.getfield 173, 3) := by decide +kernel
theorem d_D_beginAwait_30 : decode m_D_beginAwait.2.1 30 = .ok (.invokevirtual 226, 3) := by decide +kernel
theorem d_D_beginAwait_33 : decode m_D_beginAwait.2.1 33 = .ok (.return_, 1) := by decide +kernel
theorem d_D_beginTake_0 : decode m_D_beginTake.2.1 0 = .ok (.aload_n 2, 1) := by decide +kernel
theorem d_D_beginTake_1 : decode m_D_beginTake.2.1 1 = .ok (.getfield 164, 3) := by decide +kernel
theorem d_D_beginTake_4 : decode m_D_beginTake.2.1 4 = .ok (.ifCond .le 14, 3) := by decide +kernel
theorem d_D_beginTake_7 : decode m_D_beginTake.2.1 7 = .ok (.aload_n 2, 1) := by decide +kernel
theorem d_D_beginTake_8 : decode m_D_beginTake.2.1 8 = .ok (.dup, 1) := by decide +kernel
theorem d_D_beginTake_9 : decode m_D_beginTake.2.1 9 = .ok (.getfield 164, 3) := by decide +kernel
theorem d_D_beginTake_12 : decode m_D_beginTake.2.1 12 = .ok (.iconst 1, 1) := by decide +kernel
theorem d_D_beginTake_13 : decode m_D_beginTake.2.1 13 = .ok (.isub, 1) := by decide +kernel
theorem d_D_beginTake_14 : decode m_D_beginTake.2.1 14 = .ok (.putfield 164, 3) := by decide +kernel
theorem d_D_beginTake_17 : decode m_D_beginTake.2.1 17 = .ok (.return_, 1) := by decide +kernel
theorem d_D_beginTake_18 : decode m_D_beginTake.2.1 18 = .ok (.aload_n 1, 1) := by decide +kernel
theorem d_D_beginTake_19 : decode m_D_beginTake.2.1 19 = .ok (.bipush 6, 2) := by decide +kernel
theorem d_D_beginTake_21 : decode m_D_beginTake.2.1 21 = .ok (.iload_n 3, 1) := by decide +kernel
theorem d_D_beginTake_22 : decode m_D_beginTake.2.1 22 = .ok (.invokevirtual 291, 3) := by decide +kernel
theorem d_D_beginTake_25 : decode m_D_beginTake.2.1 25 = .ok (.aload_n 2, 1) := by decide +kernel
theorem d_D_beginTake_26 : decode m_D_beginTake.2.1 26 = .ok (.getfield 170, 3) := by decide +kernel
theorem d_D_beginTake_29 : decode m_D_beginTake.2.1 29 = .ok (.aload_n 1, 1) := by decide +kernel
theorem d_D_beginTake_30 : decode m_D_beginTake.2.1 30 = .ok (.getfield 173, 3) := by decide +kernel
theorem d_D_beginTake_33 : decode m_D_beginTake.2.1 33 = .ok (.invokevirtual 226, 3) := by decide +kernel
theorem d_D_beginTake_36 : decode m_D_beginTake.2.1 36 = .ok (.return_, 1) := by decide +kernel
theorem d_D_leaveGate_0 : decode m_D_leaveGate.2.1 0 = .ok (.aload_n 0, 1) := by decide +kernel
theorem d_D_leaveGate_1 : decode m_D_leaveGate.2.1 1 = .ok (.aload_n 1, 1) := by decide +kernel
theorem d_D_leaveGate_2 : decode m_D_leaveGate.2.1 2 = .ok (.getfield 170, 3) := by decide +kernel
theorem d_D_leaveGate_5 : decode m_D_leaveGate.2.1 5 = .ok (.invokevirtual 190, 3) := by decide +kernel
theorem d_D_leaveGate_8 : decode m_D_leaveGate.2.1 8 = .ok (.invokevirtual 94, 3) := by decide +kernel
theorem d_D_leaveGate_11 : decode m_D_leaveGate.2.1 11 = .ok (.astore_n 2, 1) := by decide +kernel
theorem d_D_leaveGate_12 : decode m_D_leaveGate.2.1 12 = .ok (.aload_n 2, 1) := by decide +kernel
theorem d_D_leaveGate_13 : decode m_D_leaveGate.2.1 13 = .ok (.ifnonnull 16, 3) := by decide +kernel
theorem d_D_leaveGate_16 : decode m_D_leaveGate.2.1 16 = .ok (.aload_n 1, 1) := by decide +kernel
theorem d_D_leaveGate_17 : decode m_D_leaveGate.2.1 17 = .ok (.dup, 1) := by decide +kernel
theorem d_D_leaveGate_18 : decode m_D_leaveGate.2.1 18 = .ok (.getfield 164, 3) := by decide +kernel
theorem d_D_leaveGate_21 : decode m_D_leaveGate.2.1 21 = .ok (.iconst 1, 1) := by decide +kernel
theorem d_D_leaveGate_22 : decode m_D_leaveGate.2.1 22 = .ok (.iadd, 1) := by decide +kernel
theorem d_D_leaveGate_23 : decode m_D_leaveGate.2.1 23 = .ok (.putfield 164, 3) := by decide +kernel
theorem d_D_leaveGate_26 : decode m_D_leaveGate.2.1 26 = .ok (.goto 8, 3) := by decide +kernel
theorem d_D_leaveGate_29 : decode m_D_leaveGate.2.1 29 = .ok (.aload_n 0, 1) := by decide +kernel
theorem d_D_leaveGate_30 : decode m_D_leaveGate.2.1 30 = .ok (.aload_n 2, 1) := by decide +kernel
theorem d_D_leaveGate_31 : decode m_D_leaveGate.2.1 31 = .ok (.invokevirtual 233, 3) := by decide +kernel
theorem d_D_leaveGate_34 : decode m_D_leaveGate.2.1 34 = .ok (.return_, 1) := by decide +kernel
theorem d_D_keepPromise_0 : decode m_D_keepPromise.2.1 0 = .ok (.aload_n 1, 1) := by decide +kernel
theorem d_D_keepPromise_1 : decode m_D_keepPromise.2.1 1 = .ok (.getfield 158, 3) := by decide +kernel
theorem d_D_keepPromise_4 : decode m_D_keepPromise.2.1 4 = .ok (.ifCond .eq 5, 3) := by decide +kernel
theorem d_D_keepPromise_7 : decode m_D_keepPromise.2.1 7 = .ok (.iconst 0, 1) := by decide +kernel
theorem d_D_keepPromise_8 : decode m_D_keepPromise.2.1 8 = .ok (.ireturn, 1) := by decide +kernel
theorem d_D_keepPromise_9 : decode m_D_keepPromise.2.1 9 = .ok (.aload_n 1, 1) := by decide +kernel
theorem d_D_keepPromise_10 : decode m_D_keepPromise.2.1 10 = .ok (.iconst 1, 1) := by decide +kernel
theorem d_D_keepPromise_11 : decode m_D_keepPromise.2.1 11 = .ok (.putfield 158, 3) := by decide +kernel
theorem d_D_keepPromise_14 : decode m_D_keepPromise.2.1 14 = .ok (.aload_n 1, 1) := by decide +kernel
theorem d_D_keepPromise_15 : decode m_D_keepPromise.2.1 15 = .ok (.iload_n 2, 1) := by decide +kernel
theorem d_D_keepPromise_16 : decode m_D_keepPromise.2.1 16 = .ok (.putfield 161, 3) := by decide +kernel
theorem d_D_keepPromise_19 : decode m_D_keepPromise.2.1 19 = .ok (.iconst 0, 1) := by decide +kernel
theorem d_D_keepPromise_20 : decode m_D_keepPromise.2.1 20 = .ok (.istore_n 3, 1) := by decide +kernel
theorem d_D_keepPromise_21 : decode m_D_keepPromise.2.1 21 = .ok (.iload_n 3, 1) := by decide +kernel
theorem d_D_keepPromise_22 : decode m_D_keepPromise.2.1 22 = .ok (.aload_n 1, 1) := by decide +kernel
theorem d_D_keepPromise_23 : decode m_D_keepPromise.2.1 23 = .ok (.getfield 167, 3) := by decide +kernel
theorem d_D_keepPromise_26 : decode m_D_keepPromise.2.1 26 = .ok (.getfield 148, 3) := by decide +kernel
theorem d_D_keepPromise_29 : decode m_D_keepPromise.2.1 29 = .ok (.if_icmp .ge 40, 3) := by decide +kernel
theorem d_D_keepPromise_32 : decode m_D_keepPromise.2.1 32 = .ok (.aload_n 0, 1) := by decide +kernel
theorem d_D_keepPromise_33 : decode m_D_keepPromise.2.1 33 = .ok (.aload_n 1, 1) := by decide +kernel
theorem d_D_keepPromise_34 : decode m_D_keepPromise.2.1 34 = .ok (.getfield 167, 3) := by decide +kernel
theorem d_D_keepPromise_37 : decode m_D_keepPromise.2.1 37 = .ok (.iload_n 3, 1) := by decide +kernel
theorem d_D_keepPromise_38 : decode m_D_keepPromise.2.1 38 = .ok (.invokevirtual 151, 3) := by decide +kernel
theorem d_D_keepPromise_41 : decode m_D_keepPromise.2.1 41 = .ok (.invokevirtual 94, 3) := by decide +kernel
theorem d_D_keepPromise_44 : decode m_D_keepPromise.2.1 44 = .ok (.astore 4, 2) := by decide +kernel
theorem d_D_keepPromise_46 : decode m_D_keepPromise.2.1 46 = .ok (.aload 4, 2) := by decide +kernel
theorem d_D_keepPromise_48 : decode m_D_keepPromise.2.1 48 = .ok (.ifnull 15, 3) := by decide +kernel
theorem d_D_keepPromise_51 : decode m_D_keepPromise.2.1 51 = .ok (.aload 4, 2) := by decide +kernel
theorem d_D_keepPromise_53 : decode m_D_keepPromise.2.1 53 = .ok (.iload_n 2, 1) := by decide +kernel
theorem d_D_keepPromise_54 : decode m_D_keepPromise.2.1 54 = .ok (.invokevirtual 242, 3) := by decide +kernel
theorem d_D_keepPromise_57 : decode m_D_keepPromise.2.1 57 = .ok (.aload_n 0, 1) := by decide +kernel
theorem d_D_keepPromise_58 : decode m_D_keepPromise.2.1 58 = .ok (.aload 4, 2) := by decide +kernel
theorem d_D_keepPromise_60 : decode m_D_keepPromise.2.1 60 = .ok (.invokevirtual 233, 3) := by decide +kernel
theorem d_D_keepPromise_63 : decode m_D_keepPromise.2.1 63 = .ok (.iinc 3 1, 3) := by decide +kernel
theorem d_D_keepPromise_66 : decode m_D_keepPromise.2.1 66 = .ok (.goto (-45), 3) := by decide +kernel
theorem d_D_keepPromise_69 : decode m_D_keepPromise.2.1 69 = .ok (.aload_n 1, 1) := by decide +kernel
theorem d_D_keepPromise_70 : decode m_D_keepPromise.2.1 70 = .ok (.getfield 167, 3) := by decide +kernel
theorem d_D_keepPromise_73 : decode m_D_keepPromise.2.1 73 = .ok (.invokevirtual 186, 3) := by decide +kernel
theorem d_D_keepPromise_76 : decode m_D_keepPromise.2.1 76 = .ok (.iconst 1, 1) := by decide +kernel
theorem d_D_keepPromise_77 : decode m_D_keepPromise.2.1 77 = .ok (.ireturn, 1) := by decide +kernel
theorem d_D_sendInterrupt_0 : decode m_D_sendInterrupt.2.1 0 = .ok (.aload_n 1, 1) := by decide +kernel
theorem d_D_sendInterrupt_1 : decode m_D_sendInterrupt.2.1 1 = .ok (.getfield 98, 3) := by decide +kernel
theorem d_D_sendInterrupt_4 : decode m_D_sendInterrupt.2.1 4 = .ok (.ifCond .ne 10, 3) := by decide +kernel
theorem d_D_sendInterrupt_7 : decode m_D_sendInterrupt.2.1 7 = .ok (.aload_n 1, 1) := by decide +kernel
theorem d_D_sendInterrupt_8 : decode m_D_sendInterrupt.2.1 8 = .ok (.getfield 123, 3) := by decide +kernel
theorem d_D_sendInterrupt_11 : decode m_D_sendInterrupt.2.1 11 = .ok (.ifCond .eq 4, 3) := by decide +kernel
theorem d_D_sendInterrupt_14 : decode m_D_sendInterrupt.2.1 14 = .ok (.return_, 1) := by decide +kernel
theorem d_D_sendInterrupt_15 : decode m_D_sendInterrupt.2.1 15 = .ok (.aload_n 1, 1) := by decide +kernel
theorem d_D_sendInterrupt_16 : decode m_D_sendInterrupt.2.1 16 = .ok (.iconst 1, 1) := by decide +kernel
theorem d_D_sendInterrupt_17 : decode m_D_sendInterrupt.2.1 17 = .ok (.putfield 123, 3) := by decide +kernel
theorem d_D_sendInterrupt_20 : decode m_D_sendInterrupt.2.1 20 = .ok (.aload_n 1, 1) := by decide +kernel
theorem d_D_sendInterrupt_21 : decode m_D_sendInterrupt.2.1 21 = .ok (.iload_n 2, 1) := by decide +kernel
theorem d_D_sendInterrupt_22 : decode m_D_sendInterrupt.2.1 22 = .ok (.putfield 193, 3) := by decide +kernel
theorem d_D_sendInterrupt_25 : decode m_D_sendInterrupt.2.1 25 = .ok (.aload_n 1, 1) := by decide +kernel
theorem d_D_sendInterrupt_26 : decode m_D_sendInterrupt.2.1 26 = .ok (.getfield 133, 3) := by decide +kernel
theorem d_D_sendInterrupt_29 : decode m_D_sendInterrupt.2.1 29 = .ok (.ifCond .eq 20, 3) := by decide +kernel
theorem d_D_sendInterrupt_32 : decode m_D_sendInterrupt.2.1 32 = .ok (.aload_n 1, 1) := by decide +kernel
theorem d_D_sendInterrupt_33 : decode m_D_sendInterrupt.2.1 33 = .ok (.getfield 117, 3) := by decide +kernel
theorem d_D_sendInterrupt_36 : decode m_D_sendInterrupt.2.1 36 = .ok (.ifCond .ne 13, 3) := by decide +kernel
theorem d_D_sendInterrupt_39 : decode m_D_sendInterrupt.2.1 39 = .ok (.aload_n 0, 1) := by decide +kernel
theorem d_D_sendInterrupt_40 : decode m_D_sendInterrupt.2.1 40 = .ok (.aload_n 1, 1) := by decide +kernel
theorem d_D_sendInterrupt_41 : decode m_D_sendInterrupt.2.1 41 = .ok (.invokevirtual 311, 3) := by decide +kernel
theorem d_D_sendInterrupt_44 : decode m_D_sendInterrupt.2.1 44 = .ok (.aload_n 0, 1) := by decide +kernel
theorem d_D_sendInterrupt_45 : decode m_D_sendInterrupt.2.1 45 = .ok (.aload_n 1, 1) := by decide +kernel
theorem d_D_sendInterrupt_46 : decode m_D_sendInterrupt.2.1 46 = .ok (.invokevirtual 233, 3) := by decide +kernel
theorem d_D_sendInterrupt_49 : decode m_D_sendInterrupt.2.1 49 = .ok (.return_, 1) := by decide +kernel
theorem d_D_leaveLine_0 : decode m_D_leaveLine.2.1 0 = .ok (.aload_n 0, 1) := by decide +kernel
theorem d_D_leaveLine_1 : decode m_D_leaveLine.2.1 1 = .ok (.aload_n 1, 1) := by decide +kernel
theorem d_D_leaveLine_2 : decode m_D_leaveLine.2.1 2 = .ok (.getfield 314, 3) := by decide +kernel
theorem d_D_leaveLine_5 : decode m_D_leaveLine.2.1 5 = .ok (.invokevirtual 106, 3) := by decide +kernel
theorem d_D_leaveLine_8 : decode m_D_leaveLine.2.1 8 = .ok (.astore_n 2, 1) := by decide +kernel
theorem d_D_leaveLine_9 : decode m_D_leaveLine.2.1 9 = .ok (.aload_n 2, 1) := by decide +kernel
theorem d_D_leaveLine_10 : decode m_D_leaveLine.2.1 10 = .ok (.ifnonnull 4, 3) := by decide +kernel
theorem d_D_leaveLine_13 : decode m_D_leaveLine.2.1 13 = .ok (.return_, 1) := by decide +kernel
theorem d_D_leaveLine_14 : decode m_D_leaveLine.2.1 14 = .ok (.aload_n 1, 1) := by decide +kernel
theorem d_D_leaveLine_15 : decode m_D_leaveLine.2.1 15 = .ok (.getfield 133, 3) := by decide +kernel
theorem d_D_leaveLine_18 : decode m_D_leaveLine.2.1 18 = .ok (.iconst 5, 1) := by decide +kernel
theorem d_D_leaveLine_19 : decode m_D_leaveLine.2.1 19 = .ok (.if_icmp .ne 17, 3) := by decide +kernel
theorem d_D_leaveLine_22 : decode m_D_leaveLine.2.1 22 = .ok (.aload_n 2, 1) := by decide +kernel
theorem d_D_leaveLine_23 : decode m_D_leaveLine.2.1 23 = .ok (.getfield 167, 3) := by decide +kernel
theorem d_D_leaveLine_26 : decode m_D_leaveLine.2.1 26 = .ok (.aload_n 1, 1) := by decide +kernel
theorem d_D_leaveLine_27 : decode m_D_leaveLine.2.1 27 = .ok (.getfield 173, 3) := by decide +kernel
theorem d_D_leaveLine_30 : decode m_D_leaveLine.2.1 30 = .ok (.invokevirtual 317, 3) := by decide +kernel
theorem d_D_leaveLine_33 : decode m_D_leaveLine.2.1 33 = .ok (.goto 23, 3) := by decide +kernel
theorem d_D_leaveLine_36 : decode m_D_leaveLine.2.1 36 = .ok (.aload_n 1, 1) := by decide +kernel
theorem d_D_leaveLine_37 : decode m_D_leaveLine.2.1 37 = .ok (.getfield 133, 3) := by decide +kernel
theorem d_D_leaveLine_40 : decode m_D_leaveLine.2.1 40 = .ok (.bipush 6, 2) := by decide +kernel
theorem d_D_leaveLine_42 : decode m_D_leaveLine.2.1 42 = .ok (.if_icmp .ne 14, 3) := by decide +kernel
theorem d_D_leaveLine_45 : decode m_D_leaveLine.2.1 45 = .ok (.aload_n 2, 1) := by decide +kernel
theorem d_D_leaveLine_46 : decode m_D_leaveLine.2.1 46 = .ok (.getfield 170, 3) := by decide +kernel
theorem d_D_leaveLine_49 : decode m_D_leaveLine.2.1 49 = .ok (.aload_n 1, 1) := by decide +kernel
theorem d_D_leaveLine_50 : decode m_D_leaveLine.2.1 50 = .ok (.getfield 173, 3) := by decide +kernel
theorem d_D_leaveLine_53 : decode m_D_leaveLine.2.1 53 = .ok (.invokevirtual 317, 3) := by decide +kernel
theorem d_D_leaveLine_56 : decode m_D_leaveLine.2.1 56 = .ok (.return_, 1) := by decide +kernel
theorem d_D_end_0 : decode m_D_end.2.1 0 = .ok (.aload_n 1, 1) := by decide +kernel
theorem d_D_end_1 : decode m_D_end.2.1 1 = .ok (.iconst 1, 1) := by decide +kernel
theorem d_D_end_2 : decode m_D_end.2.1 2 = .ok (.putfield 98, 3) := by decide +kernel
theorem d_D_end_5 : decode m_D_end.2.1 5 = .ok (.iconst 0, 1) := by decide +kernel
theorem d_D_end_6 : decode m_D_end.2.1 6 = .ok (.istore_n 2, 1) := by decide +kernel
theorem d_D_end_7 : decode m_D_end.2.1 7 = .ok (.iload_n 2, 1) := by decide +kernel
theorem d_D_end_8 : decode m_D_end.2.1 8 = .ok (.aload_n 0, 1) := by decide +kernel
theorem d_D_end_9 : decode m_D_end.2.1 9 = .ok (.getfield 25, 3) := by decide +kernel
theorem d_D_end_12 : decode m_D_end.2.1 12 = .ok (.if_icmp .ge 57, 3) := by decide +kernel
theorem d_D_end_15 : decode m_D_end.2.1 15 = .ok (.aload_n 0, 1) := by decide +kernel
theorem d_D_end_16 : decode m_D_end.2.1 16 = .ok (.iload_n 2, 1) := by decide +kernel
theorem d_D_end_17 : decode m_D_end.2.1 17 = .ok (.invokevirtual 94, 3) := by decide +kernel
theorem d_D_end_20 : decode m_D_end.2.1 20 = .ok (.astore_n 3, 1) := by decide +kernel
theorem d_D_end_21 : decode m_D_end.2.1 21 = .ok (.aload_n 3, 1) := by decide +kernel
theorem d_D_end_22 : decode m_D_end.2.1 22 = .ok (.ifnull 20, 3) := by decide +kernel
theorem d_D_end_25 : decode m_D_end.2.1 25 = .ok (.aload_n 3, 1) := by decide +kernel
theorem d_D_end_26 : decode m_D_end.2.1 26 = .ok (.getfield 133, 3) := by decide +kernel
theorem d_D_end_29 : decode m_D_end.2.1 29 = .ok (.iconst 3, 1) := by decide +kernel
theorem d_D_end_30 : decode m_D_end.2.1 30 = .ok (.if_icmp .ne 12, 3) := by decide +kernel
theorem d_D_end_33 : decode m_D_end.2.1 33 = .ok (.aload_n 0, 1) := by decide +kernel
theorem d_D_end_34 : decode m_D_end.2.1 34 = .ok (.aload_n 3, 1) := by decide +kernel
theorem d_D_end_35 : decode m_D_end.2.1 35 = .ok (.aload_n 1, 1) := by decide +kernel
theorem d_D_end_36 : decode m_D_end.2.1 36 = .ok (.invokevirtual 320, 3) := by decide +kernel
theorem d_D_end_39 : decode m_D_end.2.1 39 = .ok (.goto 24, 3) := by decide +kernel
theorem d_D_end_42 : decode m_D_end.2.1 42 = .ok (.aload_n 3, 1) := by decide +kernel
theorem d_D_end_43 : decode m_D_end.2.1 43 = .ok (.ifnull 20, 3) := by decide +kernel
theorem d_D_end_46 : decode m_D_end.2.1 46 = .ok (.aload_n 3, 1) := by decide +kernel
theorem d_D_end_47 : decode m_D_end.2.1 47 = .ok (.getfield 314, 3) := by decide +kernel
theorem d_D_end_50 : decode m_D_end.2.1 50 = .ok (.aload_n 1, 1) := by decide +kernel
theorem d_D_end_51 : decode m_D_end.2.1 51 = .ok (.getfield 173, 3) := by decide +kernel
theorem d_D_end_54 : decode m_D_end.2.1 54 = .ok (.if_icmp .ne 9, 3) := by decide +kernel
theorem d_D_end_57 : decode m_D_end.2.1 57 = .ok (.aload_n 0, 1) := by decide +kernel
theorem d_D_end_58 : decode m_D_end.2.1 58 = .ok (.aload_n 3, 1) := by decide +kernel
theorem d_D_end_59 : decode m_D_end.2.1 59 = .ok (.aload_n 1, 1) := by decide +kernel
theorem d_D_end_60 : decode m_D_end.2.1 60 = .ok (.invokevirtual 324, 3) := by decide +kernel
theorem d_D_end_63 : decode m_D_end.2.1 63 = .ok (.iinc 2 1, 3) := by decide +kernel
theorem d_D_end_66 : decode m_D_end.2.1 66 = .ok (.goto (-59), 3) := by decide +kernel
theorem d_D_end_69 : decode m_D_end.2.1 69 = .ok (.iconst 0, 1) := by decide +kernel
theorem d_D_end_70 : decode m_D_end.2.1 70 = .ok (.istore_n 2, 1) := by decide +kernel
theorem d_D_end_71 : decode m_D_end.2.1 71 = .ok (.iload_n 2, 1) := by decide +kernel
theorem d_D_end_72 : decode m_D_end.2.1 72 = .ok (.aload_n 0, 1) := by decide +kernel
theorem d_D_end_73 : decode m_D_end.2.1 73 = .ok (.getfield 25, 3) := by decide +kernel
theorem d_D_end_76 : decode m_D_end.2.1 76 = .ok (.if_icmp .ge 39, 3) := by decide +kernel
theorem d_D_end_79 : decode m_D_end.2.1 79 = .ok (.aload_n 0, 1) := by decide +kernel
theorem d_D_end_80 : decode m_D_end.2.1 80 = .ok (.iload_n 2, 1) := by decide +kernel
theorem d_D_end_81 : decode m_D_end.2.1 81 = .ok (.invokevirtual 94, 3) := by decide +kernel
theorem d_D_end_84 : decode m_D_end.2.1 84 = .ok (.astore_n 3, 1) := by decide +kernel
theorem d_D_end_85 : decode m_D_end.2.1 85 = .ok (.aload_n 3, 1) := by decide +kernel
theorem d_D_end_86 : decode m_D_end.2.1 86 = .ok (.ifnull 23, 3) := by decide +kernel
theorem d_D_end_89 : decode m_D_end.2.1 89 = .ok (.aload_n 3, 1) := by decide +kernel
theorem d_D_end_90 : decode m_D_end.2.1 90 = .ok (.getfield 126, 3) := by decide +kernel
theorem d_D_end_93 : decode m_D_end.2.1 93 = .ok (.aload_n 1, 1) := by decide +kernel
theorem d_D_end_94 : decode m_D_end.2.1 94 = .ok (.getfield 173, 3) := by decide +kernel
theorem d_D_end_97 : decode m_D_end.2.1 97 = .ok (.if_icmp .ne 12, 3) := by decide +kernel
theorem d_D_end_100 : decode m_D_end.2.1 100 = .ok (.aload_n 0, 1) := by decide +kernel
theorem d_D_end_101 : decode m_D_end.2.1 101 = .ok (.aload_n 3, 1) := by decide +kernel
theorem d_D_end_102 : decode m_D_end.2.1 102 = .ok (.aload_n 1, 1) := by decide +kernel
theorem d_D_end_103 : decode m_D_end.2.1 103 = .ok (.getfield 173, 3) := by decide +kernel
theorem d_D_end_106 : decode m_D_end.2.1 106 = .ok (.invokevirtual 102, 3) := by decide +kernel
theorem d_D_end_109 : decode m_D_end.2.1 109 = .ok (.iinc 2 1, 3) := by decide +kernel
theorem d_D_end_112 : decode m_D_end.2.1 112 = .ok (.goto (-41), 3) := by decide +kernel
theorem d_D_end_115 : decode m_D_end.2.1 115 = .ok (.return_, 1) := by decide +kernel
theorem d_D_tellEnd_0 : decode m_D_tellEnd.2.1 0 = .ok (.aload_n 1, 1) := by decide +kernel
theorem d_D_tellEnd_1 : decode m_D_tellEnd.2.1 1 = .ok (.getfield 133, 3) := by decide +kernel
theorem d_D_tellEnd_4 : decode m_D_tellEnd.2.1 4 = .ok (.iconst 1, 1) := by decide +kernel
theorem d_D_tellEnd_5 : decode m_D_tellEnd.2.1 5 = .ok (.if_icmp .ne 23, 3) := by decide +kernel
theorem d_D_tellEnd_8 : decode m_D_tellEnd.2.1 8 = .ok (.aload_n 1, 1) := by decide +kernel
theorem d_D_tellEnd_9 : decode m_D_tellEnd.2.1 9 = .ok (.aload_n 2, 1) := by decide +kernel
theorem d_D_tellEnd_10 : decode m_D_tellEnd.2.1 10 = .ok (.getfield 129, 3) := by decide +kernel
theorem d_D_tellEnd_13 : decode m_D_tellEnd.2.1 13 = .ok (.aload_n 2, 1) := by decide +kernel
theorem d_D_tellEnd_14 : decode m_D_tellEnd.2.1 14 = .ok (.getfield 136, 3) := by decide +kernel
theorem d_D_tellEnd_17 : decode m_D_tellEnd.2.1 17 = .ok (.invokevirtual 287, 3) := by decide +kernel
theorem d_D_tellEnd_20 : decode m_D_tellEnd.2.1 20 = .ok (.aload_n 0, 1) := by decide +kernel
theorem d_D_tellEnd_21 : decode m_D_tellEnd.2.1 21 = .ok (.aload_n 1, 1) := by decide +kernel
theorem d_D_tellEnd_22 : decode m_D_tellEnd.2.1 22 = .ok (.invokevirtual 233, 3) := by decide +kernel
theorem d_D_tellEnd_25 : decode m_D_tellEnd.2.1 25 = .ok (.goto 16, 3) := by decide +kernel
theorem d_D_tellEnd_28 : decode m_D_tellEnd.2.1 28 = .ok (.aload_n 1, 1) := by decide +kernel
theorem d_D_tellEnd_29 : decode m_D_tellEnd.2.1 29 = .ok (.getfield 133, 3) := by decide +kernel
theorem d_D_tellEnd_32 : decode m_D_tellEnd.2.1 32 = .ok (.iconst 2, 1) := by decide +kernel
theorem d_D_tellEnd_33 : decode m_D_tellEnd.2.1 33 = .ok (.if_icmp .ne 8, 3) := by decide +kernel
theorem d_D_tellEnd_36 : decode m_D_tellEnd.2.1 36 = .ok (.aload_n 0, 1) := by decide +kernel
theorem d_D_tellEnd_37 : decode m_D_tellEnd.2.1 37 = .ok (.aload_n 1, 1) := by decide +kernel
theorem d_D_tellEnd_38 : decode m_D_tellEnd.2.1 38 = .ok (.invokevirtual 233, 3) := by decide +kernel
theorem d_D_tellEnd_41 : decode m_D_tellEnd.2.1 41 = .ok (.return_, 1) := by decide +kernel
theorem d_D_tellRace_0 : decode m_D_tellRace.2.1 0 = .ok (.aload_n 0, 1) := by decide +kernel
theorem d_D_tellRace_1 : decode m_D_tellRace.2.1 1 = .ok (.aload_n 1, 1) := by decide +kernel
theorem d_D_tellRace_2 : decode m_D_tellRace.2.1 2 = .ok (.getfield 314, 3) := by decide +kernel
theorem d_D_tellRace_5 : decode m_D_tellRace.2.1 5 = .ok (.invokevirtual 94, 3) := by decide +kernel
theorem d_D_tellRace_8 : decode m_D_tellRace.2.1 8 = .ok (.astore_n 3, 1) := by decide +kernel
theorem d_D_tellRace_9 : decode m_D_tellRace.2.1 9 = .ok (.aload_n 0, 1) := by decide +kernel
theorem d_D_tellRace_10 : decode m_D_tellRace.2.1 10 = .ok (.aload_n 1, 1) := by decide +kernel
theorem d_D_tellRace_11 : decode m_D_tellRace.2.1 11 = .ok (.getfield 314, 3) := by decide +kernel
theorem d_D_tellRace_14 : decode m_D_tellRace.2.1 14 = .ok (.iconst 1, 1) := by decide +kernel
theorem d_D_tellRace_15 : decode m_D_tellRace.2.1 15 = .ok (.iadd, 1) := by decide +kernel
theorem d_D_tellRace_16 : decode m_D_tellRace.2.1 16 = .ok (.invokevirtual 94, 3) := by decide +kernel
theorem d_D_tellRace_19 : decode m_D_tellRace.2.1 19 = .ok (.astore 4, 2) := by decide +kernel
theorem d_D_tellRace_21 : decode m_D_tellRace.2.1 21 = .ok (.aload_n 3, 1) := by decide +kernel
theorem d_D_tellRace_22 : decode m_D_tellRace.2.1 22 = .ok (.ifnull 19, 3) := by decide +kernel
theorem d_D_tellRace_25 : decode m_D_tellRace.2.1 25 = .ok (.aload 4, 2) := by decide +kernel
theorem d_D_tellRace_27 : decode m_D_tellRace.2.1 27 = .ok (.ifnull 14, 3) := by decide +kernel
theorem d_D_tellRace_30 : decode m_D_tellRace.2.1 30 = .ok (.aload_n 2, 1) := by decide +kernel
theorem d_D_tellRace_31 : decode m_D_tellRace.2.1 31 = .ok (.aload_n 3, 1) := by decide +kernel
theorem d_D_tellRace_32 : decode m_D_tellRace.2.1 32 = .ok (.if_acmp .eq 10, 3) := by decide +kernel
theorem d_D_tellRace_35 : decode m_D_tellRace.2.1 35 = .ok (.aload_n 2, 1) := by decide +kernel
theorem d_D_tellRace_36 : decode m_D_tellRace.2.1 36 = .ok (.aload 4, 2) := by decide +kernel
theorem d_D_tellRace_38 : decode m_D_tellRace.2.1 38 = .ok (.if_acmp .eq 4, 3) := by decide +kernel
theorem d_D_tellRace_41 : decode m_D_tellRace.2.1 41 = .ok (.return_, 1) := by decide +kernel
theorem d_D_tellRace_42 : decode m_D_tellRace.2.1 42 = .ok (.aload_n 2, 1) := by decide +kernel
theorem d_D_tellRace_43 : decode m_D_tellRace.2.1 43 = .ok (.aload_n 3, 1) := by decide +kernel
theorem d_D_tellRace_44 : decode m_D_tellRace.2.1 44 = .ok (.if_acmp .ne 8, 3) := by decide +kernel
theorem d_D_tellRace_47 : decode m_D_tellRace.2.1 47 = .ok (.aload 4, 2) := by decide +kernel
theorem d_D_tellRace_49 : decode m_D_tellRace.2.1 49 = .ok (.goto 4, 3) := by decide +kernel
theorem d_D_tellRace_52 : decode m_D_tellRace.2.1 52 = .ok (.aload_n 3, 1) := by decide +kernel
theorem d_D_tellRace_53 : decode m_D_tellRace.2.1 53 = .ok (.astore 5, 2) := by decide +kernel
theorem d_D_tellRace_55 : decode m_D_tellRace.2.1 55 = .ok (.aload 5, 2) := by decide +kernel
theorem d_D_tellRace_57 : decode m_D_tellRace.2.1 57 = .ok (.getfield 98, 3) := by decide +kernel
theorem d_D_tellRace_60 : decode m_D_tellRace.2.1 60 = .ok (.ifCond .eq 33, 3) := by decide +kernel
theorem d_D_tellRace_63 : decode m_D_tellRace.2.1 63 = .ok (.aload_n 0, 1) := by decide +kernel
theorem d_D_tellRace_64 : decode m_D_tellRace.2.1 64 = .ok (.aload_n 1, 1) := by decide +kernel
theorem d_D_tellRace_65 : decode m_D_tellRace.2.1 65 = .ok (.aload_n 3, 1) := by decide +kernel
theorem d_D_tellRace_66 : decode m_D_tellRace.2.1 66 = .ok (.aload 4, 2) := by decide +kernel
theorem d_D_tellRace_68 : decode m_D_tellRace.2.1 68 = .ok (.aload 5, 2) := by decide +kernel
theorem d_D_tellRace_70 : decode m_D_tellRace.2.1 70 = .ok (.getfield 136, 3) := by decide +kernel
theorem d_D_tellRace_73 : decode m_D_tellRace.2.1 73 = .ok (.ifnonnull 8, 3) := by decide +kernel
theorem d_D_tellRace_76 : decode m_D_tellRace.2.1 76 = .ok (.aload 5, 2) := by decide +kernel
theorem d_D_tellRace_78 : decode m_D_tellRace.2.1 78 = .ok (.goto 4, 3) := by decide +kernel
theorem d_D_tellRace_81 : decode m_D_tellRace.2.1 81 = .ok (.aload_n 2, 1) := by decide +kernel
theorem d_D_tellRace_82 : decode m_D_tellRace.2.1 82 = .ok (.invokevirtual 327, 3) := by decide +kernel
theorem d_D_tellRace_85 : decode m_D_tellRace.2.1 85 = .ok (.aload_n 0, 1) := by decide +kernel
theorem d_D_tellRace_86 : decode m_D_tellRace.2.1 86 = .ok (.aload_n 1, 1) := by decide +kernel
theorem d_D_tellRace_87 : decode m_D_tellRace.2.1 87 = .ok (.invokevirtual 233, 3) := by decide +kernel
theorem d_D_tellRace_90 : decode m_D_tellRace.2.1 90 = .ok (.goto 20, 3) := by decide +kernel
theorem d_D_tellRace_93 : decode m_D_tellRace.2.1 93 = .ok (.aload_n 2, 1) := by decide +kernel
theorem d_D_tellRace_94 : decode m_D_tellRace.2.1 94 = .ok (.getfield 136, 3) := by decide +kernel
theorem d_D_tellRace_97 : decode m_D_tellRace.2.1 97 = .ok (.ifnonnull 13, 3) := by decide +kernel
theorem d_D_tellRace_100 : decode m_D_tellRace.2.1 100 = .ok (.aload_n 0, 1) := by decide +kernel
theorem d_D_tellRace_101 : decode m_D_tellRace.2.1 101 = .ok (.aload 5, 2) := by decide +kernel
theorem d_D_tellRace_103 : decode m_D_tellRace.2.1 103 = .ok (.aload_n 1, 1) := by decide +kernel
theorem d_D_tellRace_104 : decode m_D_tellRace.2.1 104 = .ok (.getfield 173, 3) := by decide +kernel
theorem d_D_tellRace_107 : decode m_D_tellRace.2.1 107 = .ok (.invokevirtual 102, 3) := by decide +kernel
theorem d_D_tellRace_110 : decode m_D_tellRace.2.1 110 = .ok (.return_, 1) := by decide +kernel
theorem d_D_giveRaceExit_0 : decode m_D_giveRaceExit.2.1 0 = .ok (.aload 4, 2) := by decide +kernel
theorem d_D_giveRaceExit_2 : decode m_D_giveRaceExit.2.1 2 = .ok (.getfield 136, 3) := by decide +kernel
theorem d_D_giveRaceExit_5 : decode m_D_giveRaceExit.2.1 5 = .ok (.ifnonnull 15, 3) := by decide +kernel
theorem d_D_giveRaceExit_8 : decode m_D_giveRaceExit.2.1 8 = .ok (.aload_n 1, 1) := by decide +kernel
theorem d_D_giveRaceExit_9 : decode m_D_giveRaceExit.2.1 9 = .ok (.aload 4, 2) := by decide +kernel
theorem d_D_giveRaceExit_11 : decode m_D_giveRaceExit.2.1 11 = .ok (.getfield 129, 3) := by decide +kernel
theorem d_D_giveRaceExit_14 : decode m_D_giveRaceExit.2.1 14 = .ok (.invokevirtual 242, 3) := by decide +kernel
theorem d_D_giveRaceExit_17 : decode m_D_giveRaceExit.2.1 17 = .ok (.goto 33, 3) := by decide +kernel
theorem d_D_giveRaceExit_20 : decode m_D_giveRaceExit.2.1 20 = .ok (.aload_n 2, 1) := by decide +kernel
theorem d_D_giveRaceExit_21 : decode m_D_giveRaceExit.2.1 21 = .ok (.getfield 136, 3) := by decide +kernel
theorem d_D_giveRaceExit_24 : decode m_D_giveRaceExit.2.1 24 = .ok (.ifnull 26, 3) := by decide +kernel
theorem d_D_giveRaceExit_27 : decode m_D_giveRaceExit.2.1 27 = .ok (.aload_n 3, 1) := by decide +kernel
theorem d_D_giveRaceExit_28 : decode m_D_giveRaceExit.2.1 28 = .ok (.getfield 136, 3) := by decide +kernel
theorem d_D_giveRaceExit_31 : decode m_D_giveRaceExit.2.1 31 = .ok (.ifnull 19, 3) := by decide +kernel
theorem d_D_giveRaceExit_34 : decode m_D_giveRaceExit.2.1 34 = .ok (.aload_n 1, 1) := by decide +kernel
theorem d_D_giveRaceExit_35 : decode m_D_giveRaceExit.2.1 35 = .ok (.iconst 5, 1) := by decide +kernel
theorem d_D_giveRaceExit_36 : decode m_D_giveRaceExit.2.1 36 = .ok (.aload_n 2, 1) := by decide +kernel
theorem d_D_giveRaceExit_37 : decode m_D_giveRaceExit.2.1 37 = .ok (.getfield 136, 3) := by decide +kernel
theorem d_D_giveRaceExit_40 : decode m_D_giveRaceExit.2.1 40 = .ok (.aload_n 3, 1) := by decide +kernel
theorem d_D_giveRaceExit_41 : decode m_D_giveRaceExit.2.1 41 = .ok (.getfield 136, 3) := by decide +kernel
theorem d_D_giveRaceExit_44 : decode m_D_giveRaceExit.2.1 44 = .ok (.invokestatic 331, 3) := by decide +kernel
theorem d_D_giveRaceExit_47 : decode m_D_giveRaceExit.2.1 47 = .ok (.invokevirtual 199, 3) := by decide +kernel
theorem d_D_giveRaceExit_50 : decode m_D_giveRaceExit.2.1 50 = .ok (.return_, 1) := by decide +kernel
theorem d_D_joined_0 : decode m_D_joined.2.1 0 = .ok (.iconst 1, 1) := by decide +kernel
theorem d_D_joined_1 : decode m_D_joined.2.1 1 = .ok (.aload_n 1, 1) := by decide +kernel
theorem d_D_joined_2 : decode m_D_joined.2.1 2 = .ok (.getfield 140, 3) := by decide +kernel
theorem d_D_joined_5 : decode m_D_joined.2.1 5 = .ok (.arraylength, 1) := by decide +kernel
theorem d_D_joined_6 : decode m_D_joined.2.1 6 = .ok (.iadd, 1) := by decide +kernel
theorem d_D_joined_7 : decode m_D_joined.2.1 7 = .ok (.aload_n 2, 1) := by decide +kernel
theorem d_D_joined_8 : decode m_D_joined.2.1 8 = .ok (.getfield 140, 3) := by decide +kernel
theorem d_D_joined_11 : decode m_D_joined.2.1 11 = .ok (.arraylength, 1) := by decide +kernel
theorem d_D_joined_12 : decode m_D_joined.2.1 12 = .ok (.iadd, 1) := by decide +kernel
theorem d_D_joined_13 : decode m_D_joined.2.1 13 = .ok (.istore_n 3, 1) := by decide +kernel
theorem d_D_joined_14 : decode m_D_joined.2.1 14 = .ok (.iload_n 3, 1) := by decide +kernel
theorem d_D_joined_15 : decode m_D_joined.2.1 15 = .ok (.bipush 9, 2) := by decide +kernel
theorem d_D_joined_17 : decode m_D_joined.2.1 17 = .ok (.if_icmp .le 7, 3) := by decide +kernel
theorem d_D_joined_20 : decode m_D_joined.2.1 20 = .ok (.aload_n 1, 1) := by decide +kernel
theorem d_D_joined_21 : decode m_D_joined.2.1 21 = .ok (.goto 13, 3) := by decide +kernel
theorem d_D_joined_24 : decode m_D_joined.2.1 24 = .ok (.new 141, 3) := by decide +kernel
theorem d_D_joined_27 : decode m_D_joined.2.1 27 = .ok (.dup, 1) := by decide +kernel
theorem d_D_joined_28 : decode m_D_joined.2.1 28 = .ok (.iload_n 0, 1) := by decide +kernel
theorem d_D_joined_29 : decode m_D_joined.2.1 29 = .ok (.aload_n 1, 1) := by decide +kernel
theorem d_D_joined_30 : decode m_D_joined.2.1 30 = .ok (.aload_n 2, 1) := by decide +kernel
theorem d_D_joined_31 : decode m_D_joined.2.1 31 = .ok (.invokespecial 335, 3) := by decide +kernel
theorem d_D_joined_34 : decode m_D_joined.2.1 34 = .ok (.areturn, 1) := by decide +kernel
theorem d_C_one_0 : decode m_C_one.2.1 0 = .ok (.aload_n 0, 1) := by decide +kernel
theorem d_C_one_1 : decode m_C_one.2.1 1 = .ok (.invokespecial 3, 3) := by decide +kernel
theorem d_C_one_4 : decode m_C_one.2.1 4 = .ok (.aload_n 0, 1) := by decide +kernel
theorem d_C_one_5 : decode m_C_one.2.1 5 = .ok (.iconst 1, 1) := by decide +kernel
theorem d_C_one_6 : decode m_C_one.2.1 6 = .ok (.newarray .int, 2) := by decide +kernel
theorem d_C_one_8 : decode m_C_one.2.1 8 = .ok (.putfield 9, 3) := by decide +kernel
theorem d_C_one_11 : decode m_C_one.2.1 11 = .ok (.aload_n 0, 1) := by decide +kernel
theorem d_C_one_12 : decode m_C_one.2.1 12 = .ok (.iconst 1, 1) := by decide +kernel
theorem d_C_one_13 : decode m_C_one.2.1 13 = .ok (.newarray .int, 2) := by decide +kernel
theorem d_C_one_15 : decode m_C_one.2.1 15 = .ok (.putfield 15, 3) := by decide +kernel
theorem d_C_one_18 : decode m_C_one.2.1 18 = .ok (.aload_n 0, 1) := by decide +kernel
theorem d_C_one_19 : decode m_C_one.2.1 19 = .ok (.getfield 9, 3) := by decide +kernel
theorem d_C_one_22 : decode m_C_one.2.1 22 = .ok (.iconst 0, 1) := by decide +kernel
theorem d_C_one_23 : decode m_C_one.2.1 23 = .ok (.iload_n 1, 1) := by decide +kernel
theorem d_C_one_24 : decode m_C_one.2.1 24 = .ok (.iastore, 1) := by decide +kernel
theorem d_C_one_25 : decode m_C_one.2.1 25 = .ok (.aload_n 0, 1) := by decide +kernel
theorem d_C_one_26 : decode m_C_one.2.1 26 = .ok (.getfield 15, 3) := by decide +kernel
theorem d_C_one_29 : decode m_C_one.2.1 29 = .ok (.iconst 0, 1) := by decide +kernel
theorem d_C_one_30 : decode m_C_one.2.1 30 = .ok (.iload_n 2, 1) := by decide +kernel
theorem d_C_one_31 : decode m_C_one.2.1 31 = .ok (.iastore, 1) := by decide +kernel
theorem d_C_one_32 : decode m_C_one.2.1 32 = .ok (.return_, 1) := by decide +kernel
theorem d_C_two_0 : decode m_C_two.2.1 0 = .ok (.aload_n 0, 1) := by decide +kernel
theorem d_C_two_1 : decode m_C_two.2.1 1 = .ok (.invokespecial 3, 3) := by decide +kernel
theorem d_C_two_4 : decode m_C_two.2.1 4 = .ok (.aload_n 2, 1) := by decide +kernel
theorem d_C_two_5 : decode m_C_two.2.1 5 = .ok (.getfield 9, 3) := by decide +kernel
theorem d_C_two_8 : decode m_C_two.2.1 8 = .ok (.arraylength, 1) := by decide +kernel
theorem d_C_two_9 : decode m_C_two.2.1 9 = .ok (.istore 4, 2) := by decide +kernel
theorem d_C_two_11 : decode m_C_two.2.1 11 = .ok (.aload_n 3, 1) := by decide +kernel
theorem d_C_two_12 : decode m_C_two.2.1 12 = .ok (.getfield 9, 3) := by decide +kernel
theorem d_C_two_15 : decode m_C_two.2.1 15 = .ok (.arraylength, 1) := by decide +kernel
theorem d_C_two_16 : decode m_C_two.2.1 16 = .ok (.istore 5, 2) := by decide +kernel
theorem d_C_two_18 : decode m_C_two.2.1 18 = .ok (.aload_n 0, 1) := by decide +kernel
theorem d_C_two_19 : decode m_C_two.2.1 19 = .ok (.iconst 1, 1) := by decide +kernel
theorem d_C_two_20 : decode m_C_two.2.1 20 = .ok (.iload 4, 2) := by decide +kernel
theorem d_C_two_22 : decode m_C_two.2.1 22 = .ok (.iadd, 1) := by decide +kernel
theorem d_C_two_23 : decode m_C_two.2.1 23 = .ok (.iload 5, 2) := by decide +kernel
theorem d_C_two_25 : decode m_C_two.2.1 25 = .ok (.iadd, 1) := by decide +kernel
theorem d_C_two_26 : decode m_C_two.2.1 26 = .ok (.newarray .int, 2) := by decide +kernel
theorem d_C_two_28 : decode m_C_two.2.1 28 = .ok (.putfield 9, 3) := by decide +kernel
theorem d_C_two_31 : decode m_C_two.2.1 31 = .ok (.aload_n 0, 1) := by decide +kernel
theorem d_C_two_32 : decode m_C_two.2.1 32 = .ok (.iconst 1, 1) := by decide +kernel
theorem d_C_two_33 : decode m_C_two.2.1 33 = .ok (.iload 4, 2) := by decide +kernel
theorem d_C_two_35 : decode m_C_two.2.1 35 = .ok (.iadd, 1) := by decide +kernel
theorem d_C_two_36 : decode m_C_two.2.1 36 = .ok (.iload 5, 2) := by decide +kernel
theorem d_C_two_38 : decode m_C_two.2.1 38 = .ok (.iadd, 1) := by decide +kernel
theorem d_C_two_39 : decode m_C_two.2.1 39 = .ok (.newarray .int, 2) := by decide +kernel
theorem d_C_two_41 : decode m_C_two.2.1 41 = .ok (.putfield 15, 3) := by decide +kernel
theorem d_C_two_44 : decode m_C_two.2.1 44 = .ok (.aload_n 0, 1) := by decide +kernel
theorem d_C_two_45 : decode m_C_two.2.1 45 = .ok (.getfield 9, 3) := by decide +kernel
theorem d_C_two_48 : decode m_C_two.2.1 48 = .ok (.iconst 0, 1) := by decide +kernel
theorem d_C_two_49 : decode m_C_two.2.1 49 = .ok (.iload_n 1, 1) := by decide +kernel
theorem d_C_two_50 : decode m_C_two.2.1 50 = .ok (.iastore, 1) := by decide +kernel
theorem d_C_two_51 : decode m_C_two.2.1 51 = .ok (.aload_n 2, 1) := by decide +kernel
theorem d_C_two_52 : decode m_C_two.2.1 52 = .ok (.getfield 9, 3) := by decide +kernel
theorem d_C_two_55 : decode m_C_two.2.1 55 = .ok (.iconst 0, 1) := by decide +kernel
theorem d_C_two_56 : decode m_C_two.2.1 56 = .ok (.aload_n 0, 1) := by decide +kernel
theorem d_C_two_57 : decode m_C_two.2.1 57 = .ok (.getfield 9, 3) := by decide +kernel
theorem d_C_two_60 : decode m_C_two.2.1 60 = .ok (.iconst 1, 1) := by decide +kernel
theorem d_C_two_61 : decode m_C_two.2.1 61 = .ok (.iload 4, 2) := by decide +kernel
theorem d_C_two_63 : decode m_C_two.2.1 63 = .ok (.invokestatic 18, 3) := by decide +kernel
theorem d_C_two_66 : decode m_C_two.2.1 66 = .ok (.aload_n 2, 1) := by decide +kernel
theorem d_C_two_67 : decode m_C_two.2.1 67 = .ok (.getfield 15, 3) := by decide +kernel
theorem d_C_two_70 : decode m_C_two.2.1 70 = .ok (.iconst 0, 1) := by decide +kernel
theorem d_C_two_71 : decode m_C_two.2.1 71 = .ok (.aload_n 0, 1) := by decide +kernel
theorem d_C_two_72 : decode m_C_two.2.1 72 = .ok (.getfield 15, 3) := by decide +kernel
theorem d_C_two_75 : decode m_C_two.2.1 75 = .ok (.iconst 1, 1) := by decide +kernel
theorem d_C_two_76 : decode m_C_two.2.1 76 = .ok (.iload 4, 2) := by decide +kernel
theorem d_C_two_78 : decode m_C_two.2.1 78 = .ok (.invokestatic 18, 3) := by decide +kernel
theorem d_C_two_81 : decode m_C_two.2.1 81 = .ok (.aload_n 3, 1) := by decide +kernel
theorem d_C_two_82 : decode m_C_two.2.1 82 = .ok (.getfield 9, 3) := by decide +kernel
theorem d_C_two_85 : decode m_C_two.2.1 85 = .ok (.iconst 0, 1) := by decide +kernel
theorem d_C_two_86 : decode m_C_two.2.1 86 = .ok (.aload_n 0, 1) := by decide +kernel
theorem d_C_two_87 : decode m_C_two.2.1 87 = .ok (.getfield 9, 3) := by decide +kernel
theorem d_C_two_90 : decode m_C_two.2.1 90 = .ok (.iconst 1, 1) := by decide +kernel
theorem d_C_two_91 : decode m_C_two.2.1 91 = .ok (.iload 4, 2) := by decide +kernel
theorem d_C_two_93 : decode m_C_two.2.1 93 = .ok (.iadd, 1) := by decide +kernel
theorem d_C_two_94 : decode m_C_two.2.1 94 = .ok (.iload 5, 2) := by decide +kernel
theorem d_C_two_96 : decode m_C_two.2.1 96 = .ok (.invokestatic 18, 3) := by decide +kernel
theorem d_C_two_99 : decode m_C_two.2.1 99 = .ok (.aload_n 3, 1) := by decide +kernel
theorem d_C_two_100 : decode m_C_two.2.1 100 = .ok (.getfield 15, 3) := by decide +kernel
theorem d_C_two_103 : decode m_C_two.2.1 103 = .ok (.iconst 0, 1) := by decide +kernel
theorem d_C_two_104 : decode m_C_two.2.1 104 = .ok (.aload_n 0, 1) := by decide +kernel
theorem d_C_two_105 : decode m_C_two.2.1 105 = .ok (.getfield 15, 3) := by decide +kernel
theorem d_C_two_108 : decode m_C_two.2.1 108 = .ok (.iconst 1, 1) := by decide +kernel
theorem d_C_two_109 : decode m_C_two.2.1 109 = .ok (.iload 4, 2) := by decide +kernel
theorem d_C_two_111 : decode m_C_two.2.1 111 = .ok (.iadd, 1) := by decide +kernel
theorem d_C_two_112 : decode m_C_two.2.1 112 = .ok (.iload 5, 2) := by decide +kernel
theorem d_C_two_114 : decode m_C_two.2.1 114 = .ok (.invokestatic 18, 3) := by decide +kernel
theorem d_C_two_117 : decode m_C_two.2.1 117 = .ok (.return_, 1) := by decide +kernel
theorem d_C_isFailAlone_0 : decode m_C_isFailAlone.2.1 0 = .ok (.aload_n 0, 1) := by decide +kernel
theorem d_C_isFailAlone_1 : decode m_C_isFailAlone.2.1 1 = .ok (.getfield 9, 3) := by decide +kernel
theorem d_C_isFailAlone_4 : decode m_C_isFailAlone.2.1 4 = .ok (.arraylength, 1) := by decide +kernel
theorem d_C_isFailAlone_5 : decode m_C_isFailAlone.2.1 5 = .ok (.iconst 1, 1) := by decide +kernel
theorem d_C_isFailAlone_6 : decode m_C_isFailAlone.2.1 6 = .ok (.if_icmp .ne 17, 3) := by decide +kernel
theorem d_C_isFailAlone_9 : decode m_C_isFailAlone.2.1 9 = .ok (.aload_n 0, 1) := by decide +kernel
theorem d_C_isFailAlone_10 : decode m_C_isFailAlone.2.1 10 = .ok (.getfield 9, 3) := by decide +kernel
theorem d_C_isFailAlone_13 : decode m_C_isFailAlone.2.1 13 = .ok (.iconst 0, 1) := by decide +kernel
theorem d_C_isFailAlone_14 : decode m_C_isFailAlone.2.1 14 = .ok (.iaload, 1) := by decide +kernel
theorem d_C_isFailAlone_15 : decode m_C_isFailAlone.2.1 15 = .ok (.iconst 1, 1) := by decide +kernel
theorem d_C_isFailAlone_16 : decode m_C_isFailAlone.2.1 16 = .ok (.if_icmp .ne 7, 3) := by decide +kernel
theorem d_C_isFailAlone_19 : decode m_C_isFailAlone.2.1 19 = .ok (.iconst 1, 1) := by decide +kernel
theorem d_C_isFailAlone_20 : decode m_C_isFailAlone.2.1 20 = .ok (.goto 4, 3) := by decide +kernel
theorem d_C_isFailAlone_23 : decode m_C_isFailAlone.2.1 23 = .ok (.iconst 0, 1) := by decide +kernel
theorem d_C_isFailAlone_24 : decode m_C_isFailAlone.2.1 24 = .ok (.ireturn, 1) := by decide +kernel
theorem d_K_init_0 : decode m_K_init.2.1 0 = .ok (.aload_n 0, 1) := by decide +kernel
theorem d_K_init_1 : decode m_K_init.2.1 1 = .ok (.invokespecial 1, 3) := by decide +kernel
theorem d_K_init_4 : decode m_K_init.2.1 4 = .ok (.aload_n 0, 1) := by decide +kernel
theorem d_K_init_5 : decode m_K_init.2.1 5 = .ok (.aload_n 1, 1) := by decide +kernel
theorem d_K_init_6 : decode m_K_init.2.1 6 = .ok (.putfield 7, 3) := by decide +kernel
theorem d_K_init_9 : decode m_K_init.2.1 9 = .ok (.aload_n 0, 1) := by decide +kernel
theorem d_K_init_10 : decode m_K_init.2.1 10 = .ok (.iload_n 2, 1) := by decide +kernel
theorem d_K_init_11 : decode m_K_init.2.1 11 = .ok (.putfield 13, 3) := by decide +kernel
theorem d_K_init_14 : decode m_K_init.2.1 14 = .ok (.aload_n 0, 1) := by decide +kernel
theorem d_K_init_15 : decode m_K_init.2.1 15 = .ok (.aload_n 3, 1) := by decide +kernel
theorem d_K_init_16 : decode m_K_init.2.1 16 = .ok (.putfield 17, 3) := by decide +kernel
theorem d_K_init_19 : decode m_K_init.2.1 19 = .ok (.return_, 1) := by decide +kernel
theorem d_E_init_0 : decode m_E_init.2.1 0 = .ok (.aload_n 0, 1) := by decide +kernel
theorem d_E_init_1 : decode m_E_init.2.1 1 = .ok (.invokespecial 1, 3) := by decide +kernel
theorem d_E_init_4 : decode m_E_init.2.1 4 = .ok (.aload_n 0, 1) := by decide +kernel
theorem d_E_init_5 : decode m_E_init.2.1 5 = .ok (.iload_n 1, 1) := by decide +kernel
theorem d_E_init_6 : decode m_E_init.2.1 6 = .ok (.putfield 7, 3) := by decide +kernel
theorem d_E_init_9 : decode m_E_init.2.1 9 = .ok (.aload_n 0, 1) := by decide +kernel
theorem d_E_init_10 : decode m_E_init.2.1 10 = .ok (.iload_n 2, 1) := by decide +kernel
theorem d_E_init_11 : decode m_E_init.2.1 11 = .ok (.putfield 13, 3) := by decide +kernel
theorem d_E_init_14 : decode m_E_init.2.1 14 = .ok (.aload_n 0, 1) := by decide +kernel
theorem d_E_init_15 : decode m_E_init.2.1 15 = .ok (.aload_n 3, 1) := by decide +kernel
theorem d_E_init_16 : decode m_E_init.2.1 16 = .ok (.putfield 16, 3) := by decide +kernel
theorem d_E_init_19 : decode m_E_init.2.1 19 = .ok (.aload_n 0, 1) := by decide +kernel
theorem d_E_init_20 : decode m_E_init.2.1 20 = .ok (.aload 4, 2) := by decide +kernel
theorem d_E_init_22 : decode m_E_init.2.1 22 = .ok (.putfield 20, 3) := by decide +kernel
theorem d_E_init_25 : decode m_E_init.2.1 25 = .ok (.aload_n 0, 1) := by decide +kernel
theorem d_E_init_26 : decode m_E_init.2.1 26 = .ok (.aload 5, 2) := by decide +kernel
theorem d_E_init_28 : decode m_E_init.2.1 28 = .ok (.putfield 23, 3) := by decide +kernel
theorem d_E_init_31 : decode m_E_init.2.1 31 = .ok (.return_, 1) := by decide +kernel
theorem d_F_init_0 : decode m_F_init.2.1 0 = .ok (.aload_n 0, 1) := by decide +kernel
theorem d_F_init_1 : decode m_F_init.2.1 1 = .ok (.invokespecial 3, 3) := by decide +kernel
theorem d_F_init_4 : decode m_F_init.2.1 4 = .ok (.aload_n 0, 1) := by decide +kernel
theorem d_F_init_5 : decode m_F_init.2.1 5 = .ok (.aconst_null, 1) := by decide +kernel
theorem d_F_init_6 : decode m_F_init.2.1 6 = .ok (.putfield 9, 3) := by decide +kernel
theorem d_F_init_9 : decode m_F_init.2.1 9 = .ok (.aload_n 0, 1) := by decide +kernel
theorem d_F_init_10 : decode m_F_init.2.1 10 = .ok (.iconst 0, 1) := by decide +kernel
theorem d_F_init_11 : decode m_F_init.2.1 11 = .ok (.putfield 15, 3) := by decide +kernel
theorem d_F_init_14 : decode m_F_init.2.1 14 = .ok (.aload_n 0, 1) := by decide +kernel
theorem d_F_init_15 : decode m_F_init.2.1 15 = .ok (.iconst 0, 1) := by decide +kernel
theorem d_F_init_16 : decode m_F_init.2.1 16 = .ok (.putfield 19, 3) := by decide +kernel
theorem d_F_init_19 : decode m_F_init.2.1 19 = .ok (.aload_n 0, 1) := by decide +kernel
theorem d_F_init_20 : decode m_F_init.2.1 20 = .ok (.aconst_null, 1) := by decide +kernel
theorem d_F_init_21 : decode m_F_init.2.1 21 = .ok (.putfield 22, 3) := by decide +kernel
theorem d_F_init_24 : decode m_F_init.2.1 24 = .ok (.aload_n 0, 1) := by decide +kernel
theorem d_F_init_25 : decode m_F_init.2.1 25 = .ok (.iconst 0, 1) := by decide +kernel
theorem d_F_init_26 : decode m_F_init.2.1 26 = .ok (.putfield 26, 3) := by decide +kernel
theorem d_F_init_29 : decode m_F_init.2.1 29 = .ok (.aload_n 0, 1) := by decide +kernel
theorem d_F_init_30 : decode m_F_init.2.1 30 = .ok (.aconst_null, 1) := by decide +kernel
theorem d_F_init_31 : decode m_F_init.2.1 31 = .ok (.putfield 30, 3) := by decide +kernel
theorem d_F_init_34 : decode m_F_init.2.1 34 = .ok (.aload_n 0, 1) := by decide +kernel
theorem d_F_init_35 : decode m_F_init.2.1 35 = .ok (.iconst 0, 1) := by decide +kernel
theorem d_F_init_36 : decode m_F_init.2.1 36 = .ok (.putfield 34, 3) := by decide +kernel
theorem d_F_init_39 : decode m_F_init.2.1 39 = .ok (.aload_n 0, 1) := by decide +kernel
theorem d_F_init_40 : decode m_F_init.2.1 40 = .ok (.iconst 0, 1) := by decide +kernel
theorem d_F_init_41 : decode m_F_init.2.1 41 = .ok (.putfield 37, 3) := by decide +kernel
theorem d_F_init_44 : decode m_F_init.2.1 44 = .ok (.aload_n 0, 1) := by decide +kernel
theorem d_F_init_45 : decode m_F_init.2.1 45 = .ok (.iconst 0, 1) := by decide +kernel
theorem d_F_init_46 : decode m_F_init.2.1 46 = .ok (.putfield 40, 3) := by decide +kernel
theorem d_F_init_49 : decode m_F_init.2.1 49 = .ok (.aload_n 0, 1) := by decide +kernel
theorem d_F_init_50 : decode m_F_init.2.1 50 = .ok (.iconst (-1), 1) := by decide +kernel
theorem d_F_init_51 : decode m_F_init.2.1 51 = .ok (.putfield 43, 3) := by decide +kernel
theorem d_F_init_54 : decode m_F_init.2.1 54 = .ok (.aload_n 0, 1) := by decide +kernel
theorem d_F_init_55 : decode m_F_init.2.1 55 = .ok (.iconst 0, 1) := by decide +kernel
theorem d_F_init_56 : decode m_F_init.2.1 56 = .ok (.putfield 46, 3) := by decide +kernel
theorem d_F_init_59 : decode m_F_init.2.1 59 = .ok (.aload_n 0, 1) := by decide +kernel
theorem d_F_init_60 : decode m_F_init.2.1 60 = .ok (.iconst 0, 1) := by decide +kernel
theorem d_F_init_61 : decode m_F_init.2.1 61 = .ok (.putfield 49, 3) := by decide +kernel
theorem d_F_init_64 : decode m_F_init.2.1 64 = .ok (.aload_n 0, 1) := by decide +kernel
theorem d_F_init_65 : decode m_F_init.2.1 65 = .ok (.iconst (-1), 1) := by decide +kernel
theorem d_F_init_66 : decode m_F_init.2.1 66 = .ok (.putfield 52, 3) := by decide +kernel
theorem d_F_init_69 : decode m_F_init.2.1 69 = .ok (.aload_n 0, 1) := by decide +kernel
theorem d_F_init_70 : decode m_F_init.2.1 70 = .ok (.iconst 0, 1) := by decide +kernel
theorem d_F_init_71 : decode m_F_init.2.1 71 = .ok (.putfield 55, 3) := by decide +kernel
theorem d_F_init_74 : decode m_F_init.2.1 74 = .ok (.aload_n 0, 1) := by decide +kernel
theorem d_F_init_75 : decode m_F_init.2.1 75 = .ok (.iload_n 1, 1) := by decide +kernel
theorem d_F_init_76 : decode m_F_init.2.1 76 = .ok (.putfield 58, 3) := by decide +kernel
theorem d_F_init_79 : decode m_F_init.2.1 79 = .ok (.aload_n 0, 1) := by decide +kernel
theorem d_F_init_80 : decode m_F_init.2.1 80 = .ok (.iload_n 2, 1) := by decide +kernel
theorem d_F_init_81 : decode m_F_init.2.1 81 = .ok (.putfield 61, 3) := by decide +kernel
theorem d_F_init_84 : decode m_F_init.2.1 84 = .ok (.return_, 1) := by decide +kernel
theorem d_F_state_0 : decode m_F_state.2.1 0 = .ok (.aload_n 0, 1) := by decide +kernel
theorem d_F_state_1 : decode m_F_state.2.1 1 = .ok (.getfield 26, 3) := by decide +kernel
theorem d_F_state_4 : decode m_F_state.2.1 4 = .ok (.ifCond .eq 16, 3) := by decide +kernel
theorem d_F_state_7 : decode m_F_state.2.1 7 = .ok (.aload_n 0, 1) := by decide +kernel
theorem d_F_state_8 : decode m_F_state.2.1 8 = .ok (.getfield 22, 3) := by decide +kernel
theorem d_F_state_11 : decode m_F_state.2.1 11 = .ok (.ifnonnull 7, 3) := by decide +kernel
theorem d_F_state_14 : decode m_F_state.2.1 14 = .ok (.iconst 2, 1) := by decide +kernel
theorem d_F_state_15 : decode m_F_state.2.1 15 = .ok (.goto 4, 3) := by decide +kernel
theorem d_F_state_18 : decode m_F_state.2.1 18 = .ok (.iconst 3, 1) := by decide +kernel
theorem d_F_state_19 : decode m_F_state.2.1 19 = .ok (.ireturn, 1) := by decide +kernel
theorem d_F_state_20 : decode m_F_state.2.1 20 = .ok (.aload_n 0, 1) := by decide +kernel
theorem d_F_state_21 : decode m_F_state.2.1 21 = .ok (.getfield 49, 3) := by decide +kernel
theorem d_F_state_24 : decode m_F_state.2.1 24 = .ok (.ifCond .ne 7, 3) := by decide +kernel
theorem d_F_state_27 : decode m_F_state.2.1 27 = .ok (.iconst 0, 1) := by decide +kernel
theorem d_F_state_28 : decode m_F_state.2.1 28 = .ok (.goto 4, 3) := by decide +kernel
theorem d_F_state_31 : decode m_F_state.2.1 31 = .ok (.iconst 1, 1) := by decide +kernel
theorem d_F_state_32 : decode m_F_state.2.1 32 = .ok (.ireturn, 1) := by decide +kernel
theorem d_F_perform_0 : decode m_F_perform.2.1 0 = .ok (.aload_n 0, 1) := by decide +kernel
theorem d_F_perform_1 : decode m_F_perform.2.1 1 = .ok (.aload_n 1, 1) := by decide +kernel
theorem d_F_perform_2 : decode m_F_perform.2.1 2 = .ok (.putfield 9, 3) := by decide +kernel
theorem d_F_perform_5 : decode m_F_perform.2.1 5 = .ok (.aload_n 0, 1) := by decide +kernel
theorem d_F_perform_6 : decode m_F_perform.2.1 6 = .ok (.iload_n 2, 1) := by decide +kernel
theorem d_F_perform_7 : decode m_F_perform.2.1 7 = .ok (.putfield 15, 3) := by decide +kernel
theorem d_F_perform_10 : decode m_F_perform.2.1 10 = .ok (.return_, 1) := by decide +kernel
theorem d_F_giveExit_0 : decode m_F_giveExit.2.1 0 = .ok (.aload_n 0, 1) := by decide +kernel
theorem d_F_giveExit_1 : decode m_F_giveExit.2.1 1 = .ok (.aconst_null, 1) := by decide +kernel
theorem d_F_giveExit_2 : decode m_F_giveExit.2.1 2 = .ok (.putfield 9, 3) := by decide +kernel
theorem d_F_giveExit_5 : decode m_F_giveExit.2.1 5 = .ok (.aload_n 0, 1) := by decide +kernel
theorem d_F_giveExit_6 : decode m_F_giveExit.2.1 6 = .ok (.iload_n 1, 1) := by decide +kernel
theorem d_F_giveExit_7 : decode m_F_giveExit.2.1 7 = .ok (.putfield 19, 3) := by decide +kernel
theorem d_F_giveExit_10 : decode m_F_giveExit.2.1 10 = .ok (.aload_n 0, 1) := by decide +kernel
theorem d_F_giveExit_11 : decode m_F_giveExit.2.1 11 = .ok (.aload_n 2, 1) := by decide +kernel
theorem d_F_giveExit_12 : decode m_F_giveExit.2.1 12 = .ok (.putfield 22, 3) := by decide +kernel
theorem d_F_giveExit_15 : decode m_F_giveExit.2.1 15 = .ok (.return_, 1) := by decide +kernel
theorem d_F_giveValue_0 : decode m_F_giveValue.2.1 0 = .ok (.aload_n 0, 1) := by decide +kernel
theorem d_F_giveValue_1 : decode m_F_giveValue.2.1 1 = .ok (.iload_n 1, 1) := by decide +kernel
theorem d_F_giveValue_2 : decode m_F_giveValue.2.1 2 = .ok (.aconst_null, 1) := by decide +kernel
theorem d_F_giveValue_3 : decode m_F_giveValue.2.1 3 = .ok (.invokevirtual 64, 3) := by decide +kernel
theorem d_F_giveValue_6 : decode m_F_giveValue.2.1 6 = .ok (.return_, 1) := by decide +kernel
theorem d_F_giveCause_0 : decode m_F_giveCause.2.1 0 = .ok (.aload_n 0, 1) := by decide +kernel
theorem d_F_giveCause_1 : decode m_F_giveCause.2.1 1 = .ok (.iconst 0, 1) := by decide +kernel
theorem d_F_giveCause_2 : decode m_F_giveCause.2.1 2 = .ok (.aload_n 1, 1) := by decide +kernel
theorem d_F_giveCause_3 : decode m_F_giveCause.2.1 3 = .ok (.invokevirtual 64, 3) := by decide +kernel
theorem d_F_giveCause_6 : decode m_F_giveCause.2.1 6 = .ok (.return_, 1) := by decide +kernel
theorem d_F_die_0 : decode m_F_die.2.1 0 = .ok (.aload_n 0, 1) := by decide +kernel
theorem d_F_die_1 : decode m_F_die.2.1 1 = .ok (.new 68, 3) := by decide +kernel
theorem d_F_die_4 : decode m_F_die.2.1 4 = .ok (.dup, 1) := by decide +kernel
theorem d_F_die_5 : decode m_F_die.2.1 5 = .ok (.iconst 2, 1) := by decide +kernel
theorem d_F_die_6 : decode m_F_die.2.1 6 = .ok (.iload_n 1, 1) := by decide +kernel
theorem d_F_die_7 : decode m_F_die.2.1 7 = .ok (.invokespecial 70, 3) := by decide +kernel
theorem d_F_die_10 : decode m_F_die.2.1 10 = .ok (.invokevirtual 73, 3) := by decide +kernel
theorem d_F_die_13 : decode m_F_die.2.1 13 = .ok (.return_, 1) := by decide +kernel
theorem d_F_waitFor_0 : decode m_F_waitFor.2.1 0 = .ok (.aload_n 0, 1) := by decide +kernel
theorem d_F_waitFor_1 : decode m_F_waitFor.2.1 1 = .ok (.aconst_null, 1) := by decide +kernel
theorem d_F_waitFor_2 : decode m_F_waitFor.2.1 2 = .ok (.putfield 9, 3) := by decide +kernel
theorem d_F_waitFor_5 : decode m_F_waitFor.2.1 5 = .ok (.aload_n 0, 1) := by decide +kernel
theorem d_F_waitFor_6 : decode m_F_waitFor.2.1 6 = .ok (.iload_n 1, 1) := by decide +kernel
theorem d_F_waitFor_7 : decode m_F_waitFor.2.1 7 = .ok (.putfield 49, 3) := by decide +kernel
theorem d_F_waitFor_10 : decode m_F_waitFor.2.1 10 = .ok (.aload_n 0, 1) := by decide +kernel
theorem d_F_waitFor_11 : decode m_F_waitFor.2.1 11 = .ok (.iload_n 2, 1) := by decide +kernel
theorem d_F_waitFor_12 : decode m_F_waitFor.2.1 12 = .ok (.putfield 52, 3) := by decide +kernel
theorem d_F_waitFor_15 : decode m_F_waitFor.2.1 15 = .ok (.return_, 1) := by decide +kernel
theorem d_F_beginFramed_0 : decode m_F_beginFramed.2.1 0 = .ok (.aload_n 0, 1) := by decide +kernel
theorem d_F_beginFramed_1 : decode m_F_beginFramed.2.1 1 = .ok (.getfield 34, 3) := by decide +kernel
theorem d_F_beginFramed_4 : decode m_F_beginFramed.2.1 4 = .ok (.bipush 16, 2) := by decide +kernel
theorem d_F_beginFramed_6 : decode m_F_beginFramed.2.1 6 = .ok (.if_icmp .lt 10, 3) := by decide +kernel
theorem d_F_beginFramed_9 : decode m_F_beginFramed.2.1 9 = .ok (.aload_n 0, 1) := by decide +kernel
theorem d_F_beginFramed_10 : decode m_F_beginFramed.2.1 10 = .ok (.bipush (-4), 2) := by decide +kernel
theorem d_F_beginFramed_12 : decode m_F_beginFramed.2.1 12 = .ok (.invokevirtual 77, 3) := by decide +kernel
theorem d_F_beginFramed_15 : decode m_F_beginFramed.2.1 15 = .ok (.return_, 1) := by decide +kernel
theorem d_F_beginFramed_16 : decode m_F_beginFramed.2.1 16 = .ok (.aload_n 0, 1) := by decide +kernel
theorem d_F_beginFramed_17 : decode m_F_beginFramed.2.1 17 = .ok (.getfield 37, 3) := by decide +kernel
theorem d_F_beginFramed_20 : decode m_F_beginFramed.2.1 20 = .ok (.istore_n 3, 1) := by decide +kernel
theorem d_F_beginFramed_21 : decode m_F_beginFramed.2.1 21 = .ok (.aload_n 1, 1) := by decide +kernel
theorem d_F_beginFramed_22 : decode m_F_beginFramed.2.1 22 = .ok (.getfield 81, 3) := by decide +kernel
theorem d_F_beginFramed_25 : decode m_F_beginFramed.2.1 25 = .ok (.bipush 8, 2) := by decide +kernel
theorem d_F_beginFramed_27 : decode m_F_beginFramed.2.1 27 = .ok (.if_icmp .eq 12, 3) := by decide +kernel
theorem d_F_beginFramed_30 : decode m_F_beginFramed.2.1 30 = .ok (.aload_n 1, 1) := by decide +kernel
theorem d_F_beginFramed_31 : decode m_F_beginFramed.2.1 31 = .ok (.getfield 81, 3) := by decide +kernel
theorem d_F_beginFramed_34 : decode m_F_beginFramed.2.1 34 = .ok (.bipush 7, 2) := by decide +kernel
theorem d_F_beginFramed_36 : decode m_F_beginFramed.2.1 36 = .ok (.if_icmp .ne 11, 3) := by decide +kernel
theorem d_F_beginFramed_39 : decode m_F_beginFramed.2.1 39 = .ok (.aload_n 0, 1) := by decide +kernel
theorem d_F_beginFramed_40 : decode m_F_beginFramed.2.1 40 = .ok (.iconst 1, 1) := by decide +kernel
theorem d_F_beginFramed_41 : decode m_F_beginFramed.2.1 41 = .ok (.putfield 37, 3) := by decide +kernel
theorem d_F_beginFramed_44 : decode m_F_beginFramed.2.1 44 = .ok (.goto 20, 3) := by decide +kernel
theorem d_F_beginFramed_47 : decode m_F_beginFramed.2.1 47 = .ok (.aload_n 1, 1) := by decide +kernel
theorem d_F_beginFramed_48 : decode m_F_beginFramed.2.1 48 = .ok (.getfield 81, 3) := by decide +kernel
theorem d_F_beginFramed_51 : decode m_F_beginFramed.2.1 51 = .ok (.bipush 9, 2) := by decide +kernel
theorem d_F_beginFramed_53 : decode m_F_beginFramed.2.1 53 = .ok (.if_icmp .ne 11, 3) := by decide +kernel
theorem d_F_beginFramed_56 : decode m_F_beginFramed.2.1 56 = .ok (.aload_n 0, 1) := by decide +kernel
theorem d_F_beginFramed_57 : decode m_F_beginFramed.2.1 57 = .ok (.aload_n 0, 1) := by decide +kernel
theorem d_F_beginFramed_58 : decode m_F_beginFramed.2.1 58 = .ok (.invokevirtual 86, 3) := by decide +kernel
theorem d_F_beginFramed_61 : decode m_F_beginFramed.2.1 61 = .ok (.putfield 37, 3) := by decide +kernel
theorem d_F_beginFramed_64 : decode m_F_beginFramed.2.1 64 = .ok (.aload_n 0, 1) := by decide +kernel
theorem d_F_beginFramed_65 : decode m_F_beginFramed.2.1 65 = .ok (.new 90, 3) := by decide +kernel
theorem d_F_beginFramed_68 : decode m_F_beginFramed.2.1 68 = .ok (.dup, 1) := by decide +kernel
theorem d_F_beginFramed_69 : decode m_F_beginFramed.2.1 69 = .ok (.aload_n 1, 1) := by decide +kernel
theorem d_F_beginFramed_70 : decode m_F_beginFramed.2.1 70 = .ok (.iload_n 3, 1) := by decide +kernel
theorem d_F_beginFramed_71 : decode m_F_beginFramed.2.1 71 = .ok (.aload_n 0, 1) := by decide +kernel
theorem d_F_beginFramed_72 : decode m_F_beginFramed.2.1 72 = .ok (.getfield 30, 3) := by decide +kernel
theorem d_F_beginFramed_75 : decode m_F_beginFramed.2.1 75 = .ok (.invokespecial 92, 3) := by decide +kernel
theorem d_F_beginFramed_78 : decode m_F_beginFramed.2.1 78 = .ok (.putfield 30, 3) := by decide +kernel
theorem d_F_beginFramed_81 : decode m_F_beginFramed.2.1 81 = .ok (.aload_n 0, 1) := by decide +kernel
theorem d_F_beginFramed_82 : decode m_F_beginFramed.2.1 82 = .ok (.dup, 1) := by decide +kernel
theorem d_F_beginFramed_83 : decode m_F_beginFramed.2.1 83 = .ok (.getfield 34, 3) := by decide +kernel
theorem d_F_beginFramed_86 : decode m_F_beginFramed.2.1 86 = .ok (.iconst 1, 1) := by decide +kernel
theorem d_F_beginFramed_87 : decode m_F_beginFramed.2.1 87 = .ok (.iadd, 1) := by decide +kernel
theorem d_F_beginFramed_88 : decode m_F_beginFramed.2.1 88 = .ok (.putfield 34, 3) := by decide +kernel
theorem d_F_beginFramed_91 : decode m_F_beginFramed.2.1 91 = .ok (.aload_n 1, 1) := by decide +kernel
theorem d_F_beginFramed_92 : decode m_F_beginFramed.2.1 92 = .ok (.getfield 81, 3) := by decide +kernel
theorem d_F_beginFramed_95 : decode m_F_beginFramed.2.1 95 = .ok (.bipush 6, 2) := by decide +kernel
theorem d_F_beginFramed_97 : decode m_F_beginFramed.2.1 97 = .ok (.if_icmp .ne 15, 3) := by decide +kernel
theorem d_F_beginFramed_100 : decode m_F_beginFramed.2.1 100 = .ok (.aload_n 0, 1) := by decide +kernel
theorem d_F_beginFramed_101 : decode m_F_beginFramed.2.1 101 = .ok (.getfield 30, 3) := by decide +kernel
theorem d_F_beginFramed_104 : decode m_F_beginFramed.2.1 104 = .ok (.aload_n 1, 1) := by decide +kernel
theorem d_F_beginFramed_105 : decode m_F_beginFramed.2.1 105 = .ok (.getfield 95, 3) := by decide +kernel
theorem d_F_beginFramed_108 : decode m_F_beginFramed.2.1 108 = .ok (.iload_n 2, 1) := by decide +kernel
theorem d_F_beginFramed_109 : decode m_F_beginFramed.2.1 109 = .ok (.invokevirtual 98, 3) := by decide +kernel
theorem d_F_beginFramed_112 : decode m_F_beginFramed.2.1 112 = .ok (.aload_n 0, 1) := by decide +kernel
theorem d_F_beginFramed_113 : decode m_F_beginFramed.2.1 113 = .ok (.aload_n 1, 1) := by decide +kernel
theorem d_F_beginFramed_114 : decode m_F_beginFramed.2.1 114 = .ok (.getfield 102, 3) := by decide +kernel
theorem d_F_beginFramed_117 : decode m_F_beginFramed.2.1 117 = .ok (.iload_n 2, 1) := by decide +kernel
theorem d_F_beginFramed_118 : decode m_F_beginFramed.2.1 118 = .ok (.invokevirtual 105, 3) := by decide +kernel
theorem d_F_beginFramed_121 : decode m_F_beginFramed.2.1 121 = .ok (.return_, 1) := by decide +kernel
theorem d_F_maskedOutsideMask_0 : decode m_F_maskedOutsideMask.2.1 0 = .ok (.aload_n 0, 1) := by decide +kernel
theorem d_F_maskedOutsideMask_1 : decode m_F_maskedOutsideMask.2.1 1 = .ok (.getfield 30, 3) := by decide +kernel
theorem d_F_maskedOutsideMask_4 : decode m_F_maskedOutsideMask.2.1 4 = .ok (.astore_n 1, 1) := by decide +kernel
theorem d_F_maskedOutsideMask_5 : decode m_F_maskedOutsideMask.2.1 5 = .ok (.aload_n 1, 1) := by decide +kernel
theorem d_F_maskedOutsideMask_6 : decode m_F_maskedOutsideMask.2.1 6 = .ok (.ifnull 28, 3) := by decide +kernel
theorem d_F_maskedOutsideMask_9 : decode m_F_maskedOutsideMask.2.1 9 = .ok (.aload_n 1, 1) := by decide +kernel
theorem d_F_maskedOutsideMask_10 : decode m_F_maskedOutsideMask.2.1 10 = .ok (.getfield 108, 3) := by decide +kernel
theorem d_F_maskedOutsideMask_13 : decode m_F_maskedOutsideMask.2.1 13 = .ok (.getfield 81, 3) := by decide +kernel
theorem d_F_maskedOutsideMask_16 : decode m_F_maskedOutsideMask.2.1 16 = .ok (.bipush 8, 2) := by decide +kernel
theorem d_F_maskedOutsideMask_18 : decode m_F_maskedOutsideMask.2.1 18 = .ok (.if_icmp .ne 8, 3) := by decide +kernel
theorem d_F_maskedOutsideMask_21 : decode m_F_maskedOutsideMask.2.1 21 = .ok (.aload_n 1, 1) := by decide +kernel
theorem d_F_maskedOutsideMask_22 : decode m_F_maskedOutsideMask.2.1 22 = .ok (.getfield 111, 3) := by decide +kernel
theorem d_F_maskedOutsideMask_25 : decode m_F_maskedOutsideMask.2.1 25 = .ok (.ireturn, 1) := by decide +kernel
theorem d_F_maskedOutsideMask_26 : decode m_F_maskedOutsideMask.2.1 26 = .ok (.aload_n 1, 1) := by decide +kernel
theorem d_F_maskedOutsideMask_27 : decode m_F_maskedOutsideMask.2.1 27 = .ok (.getfield 114, 3) := by decide +kernel
theorem d_F_maskedOutsideMask_30 : decode m_F_maskedOutsideMask.2.1 30 = .ok (.astore_n 1, 1) := by decide +kernel
theorem d_F_maskedOutsideMask_31 : decode m_F_maskedOutsideMask.2.1 31 = .ok (.goto (-26), 3) := by decide +kernel
theorem d_F_maskedOutsideMask_34 : decode m_F_maskedOutsideMask.2.1 34 = .ok (.aload_n 0, 1) := by decide +kernel
theorem d_F_maskedOutsideMask_35 : decode m_F_maskedOutsideMask.2.1 35 = .ok (.getfield 37, 3) := by decide +kernel
theorem d_F_maskedOutsideMask_38 : decode m_F_maskedOutsideMask.2.1 38 = .ok (.ireturn, 1) := by decide +kernel
theorem d_F_register_0 : decode m_F_register.2.1 0 = .ok (.aload_n 0, 1) := by decide +kernel
theorem d_F_register_1 : decode m_F_register.2.1 1 = .ok (.invokevirtual 117, 3) := by decide +kernel
theorem d_F_register_4 : decode m_F_register.2.1 4 = .ok (.astore_n 3, 1) := by decide +kernel
theorem d_F_register_5 : decode m_F_register.2.1 5 = .ok (.aload_n 3, 1) := by decide +kernel
theorem d_F_register_6 : decode m_F_register.2.1 6 = .ok (.ifnull 11, 3) := by decide +kernel
theorem d_F_register_9 : decode m_F_register.2.1 9 = .ok (.aload_n 3, 1) := by decide +kernel
theorem d_F_register_10 : decode m_F_register.2.1 10 = .ok (.getfield 121, 3) := by decide +kernel
theorem d_F_register_13 : decode m_F_register.2.1 13 = .ok (.iconst 4, 1) := by decide +kernel
theorem d_F_register_14 : decode m_F_register.2.1 14 = .ok (.if_icmp .lt 10, 3) := by decide +kernel
theorem d_F_register_17 : decode m_F_register.2.1 17 = .ok (.aload_n 0, 1) := by decide +kernel
theorem d_F_register_18 : decode m_F_register.2.1 18 = .ok (.bipush (-3), 2) := by decide +kernel
theorem d_F_register_20 : decode m_F_register.2.1 20 = .ok (.invokevirtual 77, 3) := by decide +kernel
theorem d_F_register_23 : decode m_F_register.2.1 23 = .ok (.return_, 1) := by decide +kernel
theorem d_F_register_24 : decode m_F_register.2.1 24 = .ok (.aload_n 3, 1) := by decide +kernel
theorem d_F_register_25 : decode m_F_register.2.1 25 = .ok (.aload_n 1, 1) := by decide +kernel
theorem d_F_register_26 : decode m_F_register.2.1 26 = .ok (.iload_n 2, 1) := by decide +kernel
theorem d_F_register_27 : decode m_F_register.2.1 27 = .ok (.invokevirtual 98, 3) := by decide +kernel
theorem d_F_register_30 : decode m_F_register.2.1 30 = .ok (.aload_n 0, 1) := by decide +kernel
theorem d_F_register_31 : decode m_F_register.2.1 31 = .ok (.iload_n 2, 1) := by decide +kernel
theorem d_F_register_32 : decode m_F_register.2.1 32 = .ok (.invokevirtual 124, 3) := by decide +kernel
theorem d_F_register_35 : decode m_F_register.2.1 35 = .ok (.return_, 1) := by decide +kernel
theorem d_F_openScope_0 : decode m_F_openScope.2.1 0 = .ok (.aload_n 0, 1) := by decide +kernel
theorem d_F_openScope_1 : decode m_F_openScope.2.1 1 = .ok (.getfield 30, 3) := by decide +kernel
theorem d_F_openScope_4 : decode m_F_openScope.2.1 4 = .ok (.astore_n 1, 1) := by decide +kernel
theorem d_F_openScope_5 : decode m_F_openScope.2.1 5 = .ok (.aload_n 1, 1) := by decide +kernel
theorem d_F_openScope_6 : decode m_F_openScope.2.1 6 = .ok (.ifnull 32, 3) := by decide +kernel
theorem d_F_openScope_9 : decode m_F_openScope.2.1 9 = .ok (.aload_n 1, 1) := by decide +kernel
theorem d_F_openScope_10 : decode m_F_openScope.2.1 10 = .ok (.getfield 108, 3) := by decide +kernel
theorem d_F_openScope_13 : decode m_F_openScope.2.1 13 = .ok (.getfield 81, 3) := by decide +kernel
theorem d_F_openScope_16 : decode m_F_openScope.2.1 16 = .ok (.bipush 10, 2) := by decide +kernel
theorem d_F_openScope_18 : decode m_F_openScope.2.1 18 = .ok (.if_icmp .ne 12, 3) := by decide +kernel
theorem d_F_openScope_21 : decode m_F_openScope.2.1 21 = .ok (.aload_n 1, 1) := by decide +kernel
theorem d_F_openScope_22 : decode m_F_openScope.2.1 22 = .ok (.getfield 127, 3) := by decide +kernel
theorem d_F_openScope_25 : decode m_F_openScope.2.1 25 = .ok (.ifCond .ne 5, 3) := by decide +kernel
theorem d_F_openScope_28 : decode m_F_openScope.2.1 28 = .ok (.aload_n 1, 1) := by decide +kernel
theorem d_F_openScope_29 : decode m_F_openScope.2.1 29 = .ok (.areturn, 1) := by decide +kernel
theorem d_F_openScope_30 : decode m_F_openScope.2.1 30 = .ok (.aload_n 1, 1) := by decide +kernel
theorem d_F_openScope_31 : decode m_F_openScope.2.1 31 = .ok (.getfield 114, 3) := by decide +kernel
theorem d_F_openScope_34 : decode m_F_openScope.2.1 34 = .ok (.astore_n 1, 1) := by decide +kernel
theorem d_F_openScope_35 : decode m_F_openScope.2.1 35 = .ok (.goto (-30), 3) := by decide +kernel
theorem d_F_openScope_38 : decode m_F_openScope.2.1 38 = .ok (.aconst_null, 1) := by decide +kernel
theorem d_F_openScope_39 : decode m_F_openScope.2.1 39 = .ok (.areturn, 1) := by decide +kernel
theorem d_F_comeTo_0 : decode m_F_comeTo.2.1 0 = .ok (.aload_n 1, 1) := by decide +kernel
theorem d_F_comeTo_1 : decode m_F_comeTo.2.1 1 = .ok (.getfield 108, 3) := by decide +kernel
theorem d_F_comeTo_4 : decode m_F_comeTo.2.1 4 = .ok (.astore_n 2, 1) := by decide +kernel
theorem d_F_comeTo_5 : decode m_F_comeTo.2.1 5 = .ok (.aload_n 2, 1) := by decide +kernel
theorem d_F_comeTo_6 : decode m_F_comeTo.2.1 6 = .ok (.getfield 81, 3) := by decide +kernel
theorem d_F_comeTo_9 : decode m_F_comeTo.2.1 9 = .ok (.tableswitch 125 4 9 #[39, 39, 125, 68, 52, 52], 39) := by decide +kernel
theorem d_F_comeTo_48 : decode m_F_comeTo.2.1 48 = .ok (.aload_n 0, 1) := by decide +kernel
theorem d_F_comeTo_49 : decode m_F_comeTo.2.1 49 = .ok (.aload_n 1, 1) := by decide +kernel
theorem d_F_comeTo_50 : decode m_F_comeTo.2.1 50 = .ok (.invokevirtual 130, 3) := by decide +kernel
theorem d_F_comeTo_53 : decode m_F_comeTo.2.1 53 = .ok (.aload_n 0, 1) := by decide +kernel
theorem d_F_comeTo_54 : decode m_F_comeTo.2.1 54 = .ok (.aload_n 2, 1) := by decide +kernel
theorem d_F_comeTo_55 : decode m_F_comeTo.2.1 55 = .ok (.invokevirtual 134, 3) := by decide +kernel
theorem d_F_comeTo_58 : decode m_F_comeTo.2.1 58 = .ok (.goto 81, 3) := by decide +kernel
theorem d_F_comeTo_61 : decode m_F_comeTo.2.1 61 = .ok (.aload_n 0, 1) := by decide +kernel
theorem d_F_comeTo_62 : decode m_F_comeTo.2.1 62 = .ok (.aload_n 1, 1) := by decide +kernel
theorem d_F_comeTo_63 : decode m_F_comeTo.2.1 63 = .ok (.getfield 111, 3) := by decide +kernel
theorem d_F_comeTo_66 : decode m_F_comeTo.2.1 66 = .ok (.putfield 37, 3) := by decide +kernel
theorem d_F_comeTo_69 : decode m_F_comeTo.2.1 69 = .ok (.aload_n 0, 1) := by decide +kernel
theorem d_F_comeTo_70 : decode m_F_comeTo.2.1 70 = .ok (.aload_n 1, 1) := by decide +kernel
theorem d_F_comeTo_71 : decode m_F_comeTo.2.1 71 = .ok (.invokevirtual 130, 3) := by decide +kernel
theorem d_F_comeTo_74 : decode m_F_comeTo.2.1 74 = .ok (.goto 65, 3) := by decide +kernel
theorem d_F_comeTo_77 : decode m_F_comeTo.2.1 77 = .ok (.aload_n 1, 1) := by decide +kernel
theorem d_F_comeTo_78 : decode m_F_comeTo.2.1 78 = .ok (.getfield 121, 3) := by decide +kernel
theorem d_F_comeTo_81 : decode m_F_comeTo.2.1 81 = .ok (.ifCond .ne 45, 3) := by decide +kernel
theorem d_F_comeTo_84 : decode m_F_comeTo.2.1 84 = .ok (.aload_n 0, 1) := by decide +kernel
theorem d_F_comeTo_85 : decode m_F_comeTo.2.1 85 = .ok (.getfield 22, 3) := by decide +kernel
theorem d_F_comeTo_88 : decode m_F_comeTo.2.1 88 = .ok (.ifnonnull 38, 3) := by decide +kernel
theorem d_F_comeTo_91 : decode m_F_comeTo.2.1 91 = .ok (.aload_n 0, 1) := by decide +kernel
theorem d_F_comeTo_92 : decode m_F_comeTo.2.1 92 = .ok (.aload_n 1, 1) := by decide +kernel
theorem d_F_comeTo_93 : decode m_F_comeTo.2.1 93 = .ok (.getfield 111, 3) := by decide +kernel
theorem d_F_comeTo_96 : decode m_F_comeTo.2.1 96 = .ok (.putfield 37, 3) := by decide +kernel
theorem d_F_comeTo_99 : decode m_F_comeTo.2.1 99 = .ok (.aload_n 1, 1) := by decide +kernel
theorem d_F_comeTo_100 : decode m_F_comeTo.2.1 100 = .ok (.aload_n 2, 1) := by decide +kernel
theorem d_F_comeTo_101 : decode m_F_comeTo.2.1 101 = .ok (.getfield 138, 3) := by decide +kernel
theorem d_F_comeTo_104 : decode m_F_comeTo.2.1 104 = .ok (.aload_n 0, 1) := by decide +kernel
theorem d_F_comeTo_105 : decode m_F_comeTo.2.1 105 = .ok (.getfield 19, 3) := by decide +kernel
theorem d_F_comeTo_108 : decode m_F_comeTo.2.1 108 = .ok (.invokevirtual 98, 3) := by decide +kernel
theorem d_F_comeTo_111 : decode m_F_comeTo.2.1 111 = .ok (.aload_n 0, 1) := by decide +kernel
theorem d_F_comeTo_112 : decode m_F_comeTo.2.1 112 = .ok (.aload_n 2, 1) := by decide +kernel
theorem d_F_comeTo_113 : decode m_F_comeTo.2.1 113 = .ok (.getfield 95, 3) := by decide +kernel
theorem d_F_comeTo_116 : decode m_F_comeTo.2.1 116 = .ok (.aload_n 0, 1) := by decide +kernel
theorem d_F_comeTo_117 : decode m_F_comeTo.2.1 117 = .ok (.getfield 19, 3) := by decide +kernel
theorem d_F_comeTo_120 : decode m_F_comeTo.2.1 120 = .ok (.invokevirtual 105, 3) := by decide +kernel
theorem d_F_comeTo_123 : decode m_F_comeTo.2.1 123 = .ok (.goto 16, 3) := by decide +kernel
theorem d_F_comeTo_126 : decode m_F_comeTo.2.1 126 = .ok (.aload_n 0, 1) := by decide +kernel
theorem d_F_comeTo_127 : decode m_F_comeTo.2.1 127 = .ok (.aload_n 1, 1) := by decide +kernel
theorem d_F_comeTo_128 : decode m_F_comeTo.2.1 128 = .ok (.invokevirtual 141, 3) := by decide +kernel
theorem d_F_comeTo_131 : decode m_F_comeTo.2.1 131 = .ok (.goto 8, 3) := by decide +kernel
theorem d_F_comeTo_134 : decode m_F_comeTo.2.1 134 = .ok (.aload_n 0, 1) := by decide +kernel
theorem d_F_comeTo_135 : decode m_F_comeTo.2.1 135 = .ok (.aload_n 1, 1) := by decide +kernel
theorem d_F_comeTo_136 : decode m_F_comeTo.2.1 136 = .ok (.invokevirtual 141, 3) := by decide +kernel
theorem d_F_comeTo_139 : decode m_F_comeTo.2.1 139 = .ok (.return_, 1) := by decide +kernel
theorem d_F_follow_0 : decode m_F_follow.2.1 0 = .ok (.aload_n 0, 1) := by decide +kernel
theorem d_F_follow_1 : decode m_F_follow.2.1 1 = .ok (.getfield 22, 3) := by decide +kernel
theorem d_F_follow_4 : decode m_F_follow.2.1 4 = .ok (.ifnonnull 18, 3) := by decide +kernel
theorem d_F_follow_7 : decode m_F_follow.2.1 7 = .ok (.aload_n 0, 1) := by decide +kernel
theorem d_F_follow_8 : decode m_F_follow.2.1 8 = .ok (.aload_n 1, 1) := by decide +kernel
theorem d_F_follow_9 : decode m_F_follow.2.1 9 = .ok (.getfield 95, 3) := by decide +kernel
theorem d_F_follow_12 : decode m_F_follow.2.1 12 = .ok (.aload_n 0, 1) := by decide +kernel
theorem d_F_follow_13 : decode m_F_follow.2.1 13 = .ok (.getfield 19, 3) := by decide +kernel
theorem d_F_follow_16 : decode m_F_follow.2.1 16 = .ok (.invokevirtual 105, 3) := by decide +kernel
theorem d_F_follow_19 : decode m_F_follow.2.1 19 = .ok (.goto 38, 3) := by decide +kernel
theorem d_F_follow_22 : decode m_F_follow.2.1 22 = .ok (.aload_n 1, 1) := by decide +kernel
theorem d_F_follow_23 : decode m_F_follow.2.1 23 = .ok (.getfield 81, 3) := by decide +kernel
theorem d_F_follow_26 : decode m_F_follow.2.1 26 = .ok (.iconst 5, 1) := by decide +kernel
theorem d_F_follow_27 : decode m_F_follow.2.1 27 = .ok (.if_icmp .ne 30, 3) := by decide +kernel
theorem d_F_follow_30 : decode m_F_follow.2.1 30 = .ok (.aload_n 0, 1) := by decide +kernel
theorem d_F_follow_31 : decode m_F_follow.2.1 31 = .ok (.getfield 22, 3) := by decide +kernel
theorem d_F_follow_34 : decode m_F_follow.2.1 34 = .ok (.invokevirtual 144, 3) := by decide +kernel
theorem d_F_follow_37 : decode m_F_follow.2.1 37 = .ok (.ifCond .eq 20, 3) := by decide +kernel
theorem d_F_follow_40 : decode m_F_follow.2.1 40 = .ok (.aload_n 0, 1) := by decide +kernel
theorem d_F_follow_41 : decode m_F_follow.2.1 41 = .ok (.aload_n 1, 1) := by decide +kernel
theorem d_F_follow_42 : decode m_F_follow.2.1 42 = .ok (.getfield 138, 3) := by decide +kernel
theorem d_F_follow_45 : decode m_F_follow.2.1 45 = .ok (.aload_n 0, 1) := by decide +kernel
theorem d_F_follow_46 : decode m_F_follow.2.1 46 = .ok (.getfield 22, 3) := by decide +kernel
theorem d_F_follow_49 : decode m_F_follow.2.1 49 = .ok (.getfield 147, 3) := by decide +kernel
theorem d_F_follow_52 : decode m_F_follow.2.1 52 = .ok (.iconst 0, 1) := by decide +kernel
theorem d_F_follow_53 : decode m_F_follow.2.1 53 = .ok (.iaload, 1) := by decide +kernel
theorem d_F_follow_54 : decode m_F_follow.2.1 54 = .ok (.invokevirtual 105, 3) := by decide +kernel
theorem d_F_follow_57 : decode m_F_follow.2.1 57 = .ok (.return_, 1) := by decide +kernel
theorem d_F_close_0 : decode m_F_close.2.1 0 = .ok (.aload_n 1, 1) := by decide +kernel
theorem d_F_close_1 : decode m_F_close.2.1 1 = .ok (.getfield 127, 3) := by decide +kernel
theorem d_F_close_4 : decode m_F_close.2.1 4 = .ok (.ifCond .ne 27, 3) := by decide +kernel
theorem d_F_close_7 : decode m_F_close.2.1 7 = .ok (.aload_n 1, 1) := by decide +kernel
theorem d_F_close_8 : decode m_F_close.2.1 8 = .ok (.iconst 1, 1) := by decide +kernel
theorem d_F_close_9 : decode m_F_close.2.1 9 = .ok (.putfield 127, 3) := by decide +kernel
theorem d_F_close_12 : decode m_F_close.2.1 12 = .ok (.aload_n 1, 1) := by decide +kernel
theorem d_F_close_13 : decode m_F_close.2.1 13 = .ok (.aload_n 0, 1) := by decide +kernel
theorem d_F_close_14 : decode m_F_close.2.1 14 = .ok (.getfield 19, 3) := by decide +kernel
theorem d_F_close_17 : decode m_F_close.2.1 17 = .ok (.putfield 151, 3) := by decide +kernel
theorem d_F_close_20 : decode m_F_close.2.1 20 = .ok (.aload_n 1, 1) := by decide +kernel
theorem d_F_close_21 : decode m_F_close.2.1 21 = .ok (.aload_n 0, 1) := by decide +kernel
theorem d_F_close_22 : decode m_F_close.2.1 22 = .ok (.getfield 22, 3) := by decide +kernel
theorem d_F_close_25 : decode m_F_close.2.1 25 = .ok (.putfield 152, 3) := by decide +kernel
theorem d_F_close_28 : decode m_F_close.2.1 28 = .ok (.goto 40, 3) := by decide +kernel
theorem d_F_close_31 : decode m_F_close.2.1 31 = .ok (.aload_n 0, 1) := by decide +kernel
theorem d_F_close_32 : decode m_F_close.2.1 32 = .ok (.getfield 22, 3) := by decide +kernel
theorem d_F_close_35 : decode m_F_close.2.1 35 = .ok (.ifnull 33, 3) := by decide +kernel
theorem d_F_close_38 : decode m_F_close.2.1 38 = .ok (.aload_n 1, 1) := by decide +kernel
theorem d_F_close_39 : decode m_F_close.2.1 39 = .ok (.aload_n 1, 1) := by decide +kernel
theorem d_F_close_40 : decode m_F_close.2.1 40 = .ok (.getfield 152, 3) := by decide +kernel
theorem d_F_close_43 : decode m_F_close.2.1 43 = .ok (.ifnonnull 10, 3) := by decide +kernel
theorem d_F_close_46 : decode m_F_close.2.1 46 = .ok (.aload_n 0, 1) := by decide +kernel
theorem d_F_close_47 : decode m_F_close.2.1 47 = .ok (.getfield 22, 3) := by decide +kernel
theorem d_F_close_50 : decode m_F_close.2.1 50 = .ok (.goto 15, 3) := by decide +kernel
theorem d_F_close_53 : decode m_F_close.2.1 53 = .ok (.iconst 4, 1) := by decide +kernel
theorem d_F_close_54 : decode m_F_close.2.1 54 = .ok (.aload_n 1, 1) := by decide +kernel
theorem d_F_close_55 : decode m_F_close.2.1 55 = .ok (.getfield 152, 3) := by decide +kernel
theorem d_F_close_58 : decode m_F_close.2.1 58 = .ok (.aload_n 0, 1) := by decide +kernel
theorem d_F_close_59 : decode m_F_close.2.1 59 = .ok (.getfield 22, 3) := by decide +kernel
theorem d_F_close_62 : decode m_F_close.2.1 62 = .ok (.invokestatic 153, 3) := by decide +kernel
theorem d_F_close_65 : decode m_F_close.2.1 65 = .ok (.putfield 152, 3) := by decide +kernel
theorem d_F_close_68 : decode m_F_close.2.1 68 = .ok (.aload_n 1, 1) := by decide +kernel
theorem d_F_close_69 : decode m_F_close.2.1 69 = .ok (.getfield 157, 3) := by decide +kernel
theorem d_F_close_72 : decode m_F_close.2.1 72 = .ok (.astore_n 2, 1) := by decide +kernel
theorem d_F_close_73 : decode m_F_close.2.1 73 = .ok (.aload_n 2, 1) := by decide +kernel
theorem d_F_close_74 : decode m_F_close.2.1 74 = .ok (.ifnull 29, 3) := by decide +kernel
theorem d_F_close_77 : decode m_F_close.2.1 77 = .ok (.aload_n 1, 1) := by decide +kernel
theorem d_F_close_78 : decode m_F_close.2.1 78 = .ok (.aload_n 2, 1) := by decide +kernel
theorem d_F_close_79 : decode m_F_close.2.1 79 = .ok (.getfield 161, 3) := by decide +kernel
theorem d_F_close_82 : decode m_F_close.2.1 82 = .ok (.putfield 157, 3) := by decide +kernel
theorem d_F_close_85 : decode m_F_close.2.1 85 = .ok (.aload_n 0, 1) := by decide +kernel
theorem d_F_close_86 : decode m_F_close.2.1 86 = .ok (.iconst 1, 1) := by decide +kernel
theorem d_F_close_87 : decode m_F_close.2.1 87 = .ok (.putfield 37, 3) := by decide +kernel
theorem d_F_close_90 : decode m_F_close.2.1 90 = .ok (.aload_n 0, 1) := by decide +kernel
theorem d_F_close_91 : decode m_F_close.2.1 91 = .ok (.aload_n 2, 1) := by decide +kernel
theorem d_F_close_92 : decode m_F_close.2.1 92 = .ok (.getfield 166, 3) := by decide +kernel
theorem d_F_close_95 : decode m_F_close.2.1 95 = .ok (.aload_n 2, 1) := by decide +kernel
theorem d_F_close_96 : decode m_F_close.2.1 96 = .ok (.getfield 167, 3) := by decide +kernel
theorem d_F_close_99 : decode m_F_close.2.1 99 = .ok (.invokevirtual 105, 3) := by decide +kernel
theorem d_F_close_102 : decode m_F_close.2.1 102 = .ok (.return_, 1) := by decide +kernel
theorem d_F_close_103 : decode m_F_close.2.1 103 = .ok (.aload_n 0, 1) := by decide +kernel
theorem d_F_close_104 : decode m_F_close.2.1 104 = .ok (.aload_n 1, 1) := by decide +kernel
theorem d_F_close_105 : decode m_F_close.2.1 105 = .ok (.getfield 111, 3) := by decide +kernel
theorem d_F_close_108 : decode m_F_close.2.1 108 = .ok (.putfield 37, 3) := by decide +kernel
theorem d_F_close_111 : decode m_F_close.2.1 111 = .ok (.aload_n 0, 1) := by decide +kernel
theorem d_F_close_112 : decode m_F_close.2.1 112 = .ok (.aload_n 1, 1) := by decide +kernel
theorem d_F_close_113 : decode m_F_close.2.1 113 = .ok (.invokevirtual 130, 3) := by decide +kernel
theorem d_F_close_116 : decode m_F_close.2.1 116 = .ok (.aload_n 0, 1) := by decide +kernel
theorem d_F_close_117 : decode m_F_close.2.1 117 = .ok (.aload_n 1, 1) := by decide +kernel
theorem d_F_close_118 : decode m_F_close.2.1 118 = .ok (.getfield 151, 3) := by decide +kernel
theorem d_F_close_121 : decode m_F_close.2.1 121 = .ok (.aload_n 1, 1) := by decide +kernel
theorem d_F_close_122 : decode m_F_close.2.1 122 = .ok (.getfield 152, 3) := by decide +kernel
theorem d_F_close_125 : decode m_F_close.2.1 125 = .ok (.invokevirtual 64, 3) := by decide +kernel
theorem d_F_close_128 : decode m_F_close.2.1 128 = .ok (.return_, 1) := by decide +kernel
theorem d_F_drop_0 : decode m_F_drop.2.1 0 = .ok (.aload_n 0, 1) := by decide +kernel
theorem d_F_drop_1 : decode m_F_drop.2.1 1 = .ok (.aload_n 1, 1) := by decide +kernel
theorem d_F_drop_2 : decode m_F_drop.2.1 2 = .ok (.getfield 114, 3) := by decide +kernel
theorem d_F_drop_5 : decode m_F_drop.2.1 5 = .ok (.putfield 30, 3) := by decide +kernel
theorem d_F_drop_8 : decode m_F_drop.2.1 8 = .ok (.aload_n 0, 1) := by decide +kernel
theorem d_F_drop_9 : decode m_F_drop.2.1 9 = .ok (.dup, 1) := by decide +kernel
theorem d_F_drop_10 : decode m_F_drop.2.1 10 = .ok (.getfield 34, 3) := by decide +kernel
theorem d_F_drop_13 : decode m_F_drop.2.1 13 = .ok (.iconst 1, 1) := by decide +kernel
theorem d_F_drop_14 : decode m_F_drop.2.1 14 = .ok (.isub, 1) := by decide +kernel
theorem d_F_drop_15 : decode m_F_drop.2.1 15 = .ok (.putfield 34, 3) := by decide +kernel
theorem d_F_drop_18 : decode m_F_drop.2.1 18 = .ok (.return_, 1) := by decide +kernel
theorem d_Q_init_0 : decode m_Q_init.2.1 0 = .ok (.aload_n 0, 1) := by decide +kernel
theorem d_Q_init_1 : decode m_Q_init.2.1 1 = .ok (.invokespecial 1, 3) := by decide +kernel
theorem d_Q_init_4 : decode m_Q_init.2.1 4 = .ok (.aload_n 0, 1) := by decide +kernel
theorem d_Q_init_5 : decode m_Q_init.2.1 5 = .ok (.aconst_null, 1) := by decide +kernel
theorem d_Q_init_6 : decode m_Q_init.2.1 6 = .ok (.putfield 7, 3) := by decide +kernel
theorem d_Q_init_9 : decode m_Q_init.2.1 9 = .ok (.aload_n 0, 1) := by decide +kernel
theorem d_Q_init_10 : decode m_Q_init.2.1 10 = .ok (.iconst 0, 1) := by decide +kernel
theorem d_Q_init_11 : decode m_Q_init.2.1 11 = .ok (.putfield 13, 3) := by decide +kernel
theorem d_Q_init_14 : decode m_Q_init.2.1 14 = .ok (.aload_n 0, 1) := by decide +kernel
theorem d_Q_init_15 : decode m_Q_init.2.1 15 = .ok (.iconst 0, 1) := by decide +kernel
theorem d_Q_init_16 : decode m_Q_init.2.1 16 = .ok (.putfield 17, 3) := by decide +kernel
theorem d_Q_init_19 : decode m_Q_init.2.1 19 = .ok (.aload_n 0, 1) := by decide +kernel
theorem d_Q_init_20 : decode m_Q_init.2.1 20 = .ok (.iconst 0, 1) := by decide +kernel
theorem d_Q_init_21 : decode m_Q_init.2.1 21 = .ok (.putfield 21, 3) := by decide +kernel
theorem d_Q_init_24 : decode m_Q_init.2.1 24 = .ok (.aload_n 0, 1) := by decide +kernel
theorem d_Q_init_25 : decode m_Q_init.2.1 25 = .ok (.aconst_null, 1) := by decide +kernel
theorem d_Q_init_26 : decode m_Q_init.2.1 26 = .ok (.putfield 24, 3) := by decide +kernel
theorem d_Q_init_29 : decode m_Q_init.2.1 29 = .ok (.aload_n 0, 1) := by decide +kernel
theorem d_Q_init_30 : decode m_Q_init.2.1 30 = .ok (.aload_n 1, 1) := by decide +kernel
theorem d_Q_init_31 : decode m_Q_init.2.1 31 = .ok (.putfield 28, 3) := by decide +kernel
theorem d_Q_init_34 : decode m_Q_init.2.1 34 = .ok (.aload_n 0, 1) := by decide +kernel
theorem d_Q_init_35 : decode m_Q_init.2.1 35 = .ok (.iload_n 2, 1) := by decide +kernel
theorem d_Q_init_36 : decode m_Q_init.2.1 36 = .ok (.putfield 32, 3) := by decide +kernel
theorem d_Q_init_39 : decode m_Q_init.2.1 39 = .ok (.aload_n 0, 1) := by decide +kernel
theorem d_Q_init_40 : decode m_Q_init.2.1 40 = .ok (.aload_n 3, 1) := by decide +kernel
theorem d_Q_init_41 : decode m_Q_init.2.1 41 = .ok (.putfield 35, 3) := by decide +kernel
theorem d_Q_init_44 : decode m_Q_init.2.1 44 = .ok (.return_, 1) := by decide +kernel
theorem d_Q_hold_0 : decode m_Q_hold.2.1 0 = .ok (.aload_n 0, 1) := by decide +kernel
theorem d_Q_hold_1 : decode m_Q_hold.2.1 1 = .ok (.new 39, 3) := by decide +kernel
theorem d_Q_hold_4 : decode m_Q_hold.2.1 4 = .ok (.dup, 1) := by decide +kernel
theorem d_Q_hold_5 : decode m_Q_hold.2.1 5 = .ok (.aload_n 1, 1) := by decide +kernel
theorem d_Q_hold_6 : decode m_Q_hold.2.1 6 = .ok (.iload_n 2, 1) := by decide +kernel
theorem d_Q_hold_7 : decode m_Q_hold.2.1 7 = .ok (.aload_n 0, 1) := by decide +kernel
theorem d_Q_hold_8 : decode m_Q_hold.2.1 8 = .ok (.getfield 7, 3) := by decide +kernel
theorem d_Q_hold_11 : decode m_Q_hold.2.1 11 = .ok (.invokespecial 41, 3) := by decide +kernel
theorem d_Q_hold_14 : decode m_Q_hold.2.1 14 = .ok (.putfield 7, 3) := by decide +kernel
theorem d_Q_hold_17 : decode m_Q_hold.2.1 17 = .ok (.aload_n 0, 1) := by decide +kernel
theorem d_Q_hold_18 : decode m_Q_hold.2.1 18 = .ok (.dup, 1) := by decide +kernel
theorem d_Q_hold_19 : decode m_Q_hold.2.1 19 = .ok (.getfield 13, 3) := by decide +kernel
theorem d_Q_hold_22 : decode m_Q_hold.2.1 22 = .ok (.iconst 1, 1) := by decide +kernel
theorem d_Q_hold_23 : decode m_Q_hold.2.1 23 = .ok (.iadd, 1) := by decide +kernel
theorem d_Q_hold_24 : decode m_Q_hold.2.1 24 = .ok (.putfield 13, 3) := by decide +kernel
theorem d_Q_hold_27 : decode m_Q_hold.2.1 27 = .ok (.return_, 1) := by decide +kernel
theorem d_L_init_0 : decode m_L_init.2.1 0 = .ok (.aload_n 0, 1) := by decide +kernel
theorem d_L_init_1 : decode m_L_init.2.1 1 = .ok (.invokespecial 3, 3) := by decide +kernel
theorem d_L_init_4 : decode m_L_init.2.1 4 = .ok (.aload_n 0, 1) := by decide +kernel
theorem d_L_init_5 : decode m_L_init.2.1 5 = .ok (.bipush 10, 2) := by decide +kernel
theorem d_L_init_7 : decode m_L_init.2.1 7 = .ok (.newarray .int, 2) := by decide +kernel
theorem d_L_init_9 : decode m_L_init.2.1 9 = .ok (.putfield 9, 3) := by decide +kernel
theorem d_L_init_12 : decode m_L_init.2.1 12 = .ok (.aload_n 0, 1) := by decide +kernel
theorem d_L_init_13 : decode m_L_init.2.1 13 = .ok (.iconst 0, 1) := by decide +kernel
theorem d_L_init_14 : decode m_L_init.2.1 14 = .ok (.putfield 15, 3) := by decide +kernel
theorem d_L_init_17 : decode m_L_init.2.1 17 = .ok (.return_, 1) := by decide +kernel
theorem d_L_clear_0 : decode m_L_clear.2.1 0 = .ok (.aload_n 0, 1) := by decide +kernel
theorem d_L_clear_1 : decode m_L_clear.2.1 1 = .ok (.iconst 0, 1) := by decide +kernel
theorem d_L_clear_2 : decode m_L_clear.2.1 2 = .ok (.putfield 15, 3) := by decide +kernel
theorem d_L_clear_5 : decode m_L_clear.2.1 5 = .ok (.return_, 1) := by decide +kernel
theorem d_L_add_0 : decode m_L_add.2.1 0 = .ok (.aload_n 0, 1) := by decide +kernel
theorem d_L_add_1 : decode m_L_add.2.1 1 = .ok (.getfield 15, 3) := by decide +kernel
theorem d_L_add_4 : decode m_L_add.2.1 4 = .ok (.bipush 10, 2) := by decide +kernel
theorem d_L_add_6 : decode m_L_add.2.1 6 = .ok (.if_icmp .ge 23, 3) := by decide +kernel
theorem d_L_add_9 : decode m_L_add.2.1 9 = .ok (.aload_n 0, 1) := by decide +kernel
theorem d_L_add_10 : decode m_L_add.2.1 10 = .ok (.getfield 9, 3) := by decide +kernel
theorem d_L_add_13 : decode m_L_add.2.1 13 = .ok (.aload_n 0, 1) := by decide +kernel
theorem d_L_add_14 : decode m_L_add.2.1 14 = .ok (.getfield 15, 3) := by decide +kernel
theorem d_L_add_17 : decode m_L_add.2.1 17 = .ok (.iload_n 1, 1) := by decide +kernel
theorem d_L_add_18 : decode m_L_add.2.1 18 = .ok (.iastore, 1) := by decide +kernel
theorem d_L_add_19 : decode m_L_add.2.1 19 = .ok (.aload_n 0, 1) := by decide +kernel
theorem d_L_add_20 : decode m_L_add.2.1 20 = .ok (.dup, 1) := by decide +kernel
theorem d_L_add_21 : decode m_L_add.2.1 21 = .ok (.getfield 15, 3) := by decide +kernel
theorem d_L_add_24 : decode m_L_add.2.1 24 = .ok (.iconst 1, 1) := by decide +kernel
theorem d_L_add_25 : decode m_L_add.2.1 25 = .ok (.iadd, 1) := by decide +kernel
theorem d_L_add_26 : decode m_L_add.2.1 26 = .ok (.putfield 15, 3) := by decide +kernel
theorem d_L_add_29 : decode m_L_add.2.1 29 = .ok (.return_, 1) := by decide +kernel
theorem d_L_at_0 : decode m_L_at.2.1 0 = .ok (.iload_n 1, 1) := by decide +kernel
theorem d_L_at_1 : decode m_L_at.2.1 1 = .ok (.ifCond .lt 20, 3) := by decide +kernel
theorem d_L_at_4 : decode m_L_at.2.1 4 = .ok (.iload_n 1, 1) := by decide +kernel
theorem d_L_at_5 : decode m_L_at.2.1 5 = .ok (.aload_n 0, 1) := by decide +kernel
theorem d_L_at_6 : decode m_L_at.2.1 6 = .ok (.getfield 15, 3) := by decide +kernel
theorem d_L_at_9 : decode m_L_at.2.1 9 = .ok (.if_icmp .ge 12, 3) := by decide +kernel
theorem d_L_at_12 : decode m_L_at.2.1 12 = .ok (.aload_n 0, 1) := by decide +kernel
theorem d_L_at_13 : decode m_L_at.2.1 13 = .ok (.getfield 9, 3) := by decide +kernel
theorem d_L_at_16 : decode m_L_at.2.1 16 = .ok (.iload_n 1, 1) := by decide +kernel
theorem d_L_at_17 : decode m_L_at.2.1 17 = .ok (.iaload, 1) := by decide +kernel
theorem d_L_at_18 : decode m_L_at.2.1 18 = .ok (.goto 4, 3) := by decide +kernel
theorem d_L_at_21 : decode m_L_at.2.1 21 = .ok (.iconst (-1), 1) := by decide +kernel
theorem d_L_at_22 : decode m_L_at.2.1 22 = .ok (.ireturn, 1) := by decide +kernel
theorem d_L_takeFirst_0 : decode m_L_takeFirst.2.1 0 = .ok (.aload_n 0, 1) := by decide +kernel
theorem d_L_takeFirst_1 : decode m_L_takeFirst.2.1 1 = .ok (.iconst 0, 1) := by decide +kernel
theorem d_L_takeFirst_2 : decode m_L_takeFirst.2.1 2 = .ok (.invokevirtual 19, 3) := by decide +kernel
theorem d_L_takeFirst_5 : decode m_L_takeFirst.2.1 5 = .ok (.istore_n 1, 1) := by decide +kernel
theorem d_L_takeFirst_6 : decode m_L_takeFirst.2.1 6 = .ok (.aload_n 0, 1) := by decide +kernel
theorem d_L_takeFirst_7 : decode m_L_takeFirst.2.1 7 = .ok (.iload_n 1, 1) := by decide +kernel
theorem d_L_takeFirst_8 : decode m_L_takeFirst.2.1 8 = .ok (.invokevirtual 23, 3) := by decide +kernel
theorem d_L_takeFirst_11 : decode m_L_takeFirst.2.1 11 = .ok (.iload_n 1, 1) := by decide +kernel
theorem d_L_takeFirst_12 : decode m_L_takeFirst.2.1 12 = .ok (.ireturn, 1) := by decide +kernel
theorem d_L_remove_0 : decode m_L_remove.2.1 0 = .ok (.iconst 0, 1) := by decide +kernel
theorem d_L_remove_1 : decode m_L_remove.2.1 1 = .ok (.istore_n 2, 1) := by decide +kernel
theorem d_L_remove_2 : decode m_L_remove.2.1 2 = .ok (.iconst 0, 1) := by decide +kernel
theorem d_L_remove_3 : decode m_L_remove.2.1 3 = .ok (.istore_n 3, 1) := by decide +kernel
theorem d_L_remove_4 : decode m_L_remove.2.1 4 = .ok (.iload_n 3, 1) := by decide +kernel
theorem d_L_remove_5 : decode m_L_remove.2.1 5 = .ok (.aload_n 0, 1) := by decide +kernel
theorem d_L_remove_6 : decode m_L_remove.2.1 6 = .ok (.getfield 15, 3) := by decide +kernel
theorem d_L_remove_9 : decode m_L_remove.2.1 9 = .ok (.if_icmp .ge 34, 3) := by decide +kernel
theorem d_L_remove_12 : decode m_L_remove.2.1 12 = .ok (.aload_n 0, 1) := by decide +kernel
theorem d_L_remove_13 : decode m_L_remove.2.1 13 = .ok (.getfield 9, 3) := by decide +kernel
theorem d_L_remove_16 : decode m_L_remove.2.1 16 = .ok (.iload_n 3, 1) := by decide +kernel
theorem d_L_remove_17 : decode m_L_remove.2.1 17 = .ok (.iaload, 1) := by decide +kernel
theorem d_L_remove_18 : decode m_L_remove.2.1 18 = .ok (.iload_n 1, 1) := by decide +kernel
theorem d_L_remove_19 : decode m_L_remove.2.1 19 = .ok (.if_icmp .eq 18, 3) := by decide +kernel
theorem d_L_remove_22 : decode m_L_remove.2.1 22 = .ok (.aload_n 0, 1) := by decide +kernel
theorem d_L_remove_23 : decode m_L_remove.2.1 23 = .ok (.getfield 9, 3) := by decide +kernel
theorem d_L_remove_26 : decode m_L_remove.2.1 26 = .ok (.iload_n 2, 1) := by decide +kernel
theorem d_L_remove_27 : decode m_L_remove.2.1 27 = .ok (.aload_n 0, 1) := by decide +kernel
theorem d_L_remove_28 : decode m_L_remove.2.1 28 = .ok (.getfield 9, 3) := by decide +kernel
theorem d_L_remove_31 : decode m_L_remove.2.1 31 = .ok (.iload_n 3, 1) := by decide +kernel
theorem d_L_remove_32 : decode m_L_remove.2.1 32 = .ok (.iaload, 1) := by decide +kernel
theorem d_L_remove_33 : decode m_L_remove.2.1 33 = .ok (.iastore, 1) := by decide +kernel
theorem d_L_remove_34 : decode m_L_remove.2.1 34 = .ok (.iinc 2 1, 3) := by decide +kernel
theorem d_L_remove_37 : decode m_L_remove.2.1 37 = .ok (.iinc 3 1, 3) := by decide +kernel
theorem d_L_remove_40 : decode m_L_remove.2.1 40 = .ok (.goto (-36), 3) := by decide +kernel
theorem d_L_remove_43 : decode m_L_remove.2.1 43 = .ok (.aload_n 0, 1) := by decide +kernel
theorem d_L_remove_44 : decode m_L_remove.2.1 44 = .ok (.iload_n 2, 1) := by decide +kernel
theorem d_L_remove_45 : decode m_L_remove.2.1 45 = .ok (.putfield 15, 3) := by decide +kernel
theorem d_L_remove_48 : decode m_L_remove.2.1 48 = .ok (.return_, 1) := by decide +kernel
theorem d_P_init_0 : decode m_P_init.2.1 0 = .ok (.aload_n 0, 1) := by decide +kernel
theorem d_P_init_1 : decode m_P_init.2.1 1 = .ok (.invokespecial 1, 3) := by decide +kernel
theorem d_P_init_4 : decode m_P_init.2.1 4 = .ok (.aload_n 0, 1) := by decide +kernel
theorem d_P_init_5 : decode m_P_init.2.1 5 = .ok (.iconst 0, 1) := by decide +kernel
theorem d_P_init_6 : decode m_P_init.2.1 6 = .ok (.putfield 7, 3) := by decide +kernel
theorem d_P_init_9 : decode m_P_init.2.1 9 = .ok (.aload_n 0, 1) := by decide +kernel
theorem d_P_init_10 : decode m_P_init.2.1 10 = .ok (.iconst 0, 1) := by decide +kernel
theorem d_P_init_11 : decode m_P_init.2.1 11 = .ok (.putfield 13, 3) := by decide +kernel
theorem d_P_init_14 : decode m_P_init.2.1 14 = .ok (.aload_n 0, 1) := by decide +kernel
theorem d_P_init_15 : decode m_P_init.2.1 15 = .ok (.iconst 0, 1) := by decide +kernel
theorem d_P_init_16 : decode m_P_init.2.1 16 = .ok (.putfield 17, 3) := by decide +kernel
theorem d_P_init_19 : decode m_P_init.2.1 19 = .ok (.aload_n 0, 1) := by decide +kernel
theorem d_P_init_20 : decode m_P_init.2.1 20 = .ok (.iconst 1, 1) := by decide +kernel
theorem d_P_init_21 : decode m_P_init.2.1 21 = .ok (.putfield 20, 3) := by decide +kernel
theorem d_P_init_24 : decode m_P_init.2.1 24 = .ok (.aload_n 0, 1) := by decide +kernel
theorem d_P_init_25 : decode m_P_init.2.1 25 = .ok (.new 23, 3) := by decide +kernel
theorem d_P_init_28 : decode m_P_init.2.1 28 = .ok (.dup, 1) := by decide +kernel
theorem d_P_init_29 : decode m_P_init.2.1 29 = .ok (.invokespecial 25, 3) := by decide +kernel
theorem d_P_init_32 : decode m_P_init.2.1 32 = .ok (.putfield 26, 3) := by decide +kernel
theorem d_P_init_35 : decode m_P_init.2.1 35 = .ok (.aload_n 0, 1) := by decide +kernel
theorem d_P_init_36 : decode m_P_init.2.1 36 = .ok (.new 23, 3) := by decide +kernel
theorem d_P_init_39 : decode m_P_init.2.1 39 = .ok (.dup, 1) := by decide +kernel
theorem d_P_init_40 : decode m_P_init.2.1 40 = .ok (.invokespecial 25, 3) := by decide +kernel
theorem d_P_init_43 : decode m_P_init.2.1 43 = .ok (.putfield 30, 3) := by decide +kernel
theorem d_P_init_46 : decode m_P_init.2.1 46 = .ok (.return_, 1) := by decide +kernel
theorem d_P_clear_0 : decode m_P_clear.2.1 0 = .ok (.aload_n 0, 1) := by decide +kernel
theorem d_P_clear_1 : decode m_P_clear.2.1 1 = .ok (.iconst 0, 1) := by decide +kernel
theorem d_P_clear_2 : decode m_P_clear.2.1 2 = .ok (.putfield 7, 3) := by decide +kernel
theorem d_P_clear_5 : decode m_P_clear.2.1 5 = .ok (.aload_n 0, 1) := by decide +kernel
theorem d_P_clear_6 : decode m_P_clear.2.1 6 = .ok (.iconst 0, 1) := by decide +kernel
theorem d_P_clear_7 : decode m_P_clear.2.1 7 = .ok (.putfield 13, 3) := by decide +kernel
theorem d_P_clear_10 : decode m_P_clear.2.1 10 = .ok (.aload_n 0, 1) := by decide +kernel
theorem d_P_clear_11 : decode m_P_clear.2.1 11 = .ok (.iconst 0, 1) := by decide +kernel
theorem d_P_clear_12 : decode m_P_clear.2.1 12 = .ok (.putfield 17, 3) := by decide +kernel
theorem d_P_clear_15 : decode m_P_clear.2.1 15 = .ok (.aload_n 0, 1) := by decide +kernel
theorem d_P_clear_16 : decode m_P_clear.2.1 16 = .ok (.iconst 1, 1) := by decide +kernel
theorem d_P_clear_17 : decode m_P_clear.2.1 17 = .ok (.putfield 20, 3) := by decide +kernel
theorem d_P_clear_20 : decode m_P_clear.2.1 20 = .ok (.aload_n 0, 1) := by decide +kernel
theorem d_P_clear_21 : decode m_P_clear.2.1 21 = .ok (.getfield 26, 3) := by decide +kernel
theorem d_P_clear_24 : decode m_P_clear.2.1 24 = .ok (.invokevirtual 33, 3) := by decide +kernel
theorem d_P_clear_27 : decode m_P_clear.2.1 27 = .ok (.aload_n 0, 1) := by decide +kernel
theorem d_P_clear_28 : decode m_P_clear.2.1 28 = .ok (.getfield 30, 3) := by decide +kernel
theorem d_P_clear_31 : decode m_P_clear.2.1 31 = .ok (.invokevirtual 33, 3) := by decide +kernel
theorem d_P_clear_34 : decode m_P_clear.2.1 34 = .ok (.return_, 1) := by decide +kernel
end
section
theorem d_R_init_0 : decode m_R_init.2.1 0 = .ok (.aload_n 0, 1) := by decide +kernel
theorem d_R_init_1 : decode m_R_init.2.1 1 = .ok (.invokespecial 1, 3) := by decide +kernel
theorem d_R_init_4 : decode m_R_init.2.1 4 = .ok (.aload_n 0, 1) := by decide +kernel
theorem d_R_init_5 : decode m_R_init.2.1 5 = .ok (.bipush 40, 2) := by decide +kernel
theorem d_R_init_7 : decode m_R_init.2.1 7 = .ok (.newarray .int, 2) := by decide +kernel
theorem d_R_init_9 : decode m_R_init.2.1 9 = .ok (.putfield 7, 3) := by decide +kernel
theorem d_R_init_12 : decode m_R_init.2.1 12 = .ok (.aload_n 0, 1) := by decide +kernel
theorem d_R_init_13 : decode m_R_init.2.1 13 = .ok (.bipush 40, 2) := by decide +kernel
theorem d_R_init_15 : decode m_R_init.2.1 15 = .ok (.newarray .int, 2) := by decide +kernel
theorem d_R_init_17 : decode m_R_init.2.1 17 = .ok (.putfield 13, 3) := by decide +kernel
theorem d_R_init_20 : decode m_R_init.2.1 20 = .ok (.aload_n 0, 1) := by decide +kernel
theorem d_R_init_21 : decode m_R_init.2.1 21 = .ok (.bipush 40, 2) := by decide +kernel
theorem d_R_init_23 : decode m_R_init.2.1 23 = .ok (.newarray .int, 2) := by decide +kernel
theorem d_R_init_25 : decode m_R_init.2.1 25 = .ok (.putfield 16, 3) := by decide +kernel
theorem d_R_init_28 : decode m_R_init.2.1 28 = .ok (.aload_n 0, 1) := by decide +kernel
theorem d_R_init_29 : decode m_R_init.2.1 29 = .ok (.bipush 40, 2) := by decide +kernel
theorem d_R_init_31 : decode m_R_init.2.1 31 = .ok (.newarray .int, 2) := by decide +kernel
theorem d_R_init_33 : decode m_R_init.2.1 33 = .ok (.putfield 19, 3) := by decide +kernel
theorem d_R_init_36 : decode m_R_init.2.1 36 = .ok (.aload_n 0, 1) := by decide +kernel
theorem d_R_init_37 : decode m_R_init.2.1 37 = .ok (.bipush 10, 2) := by decide +kernel
theorem d_R_init_39 : decode m_R_init.2.1 39 = .ok (.newarray .int, 2) := by decide +kernel
theorem d_R_init_41 : decode m_R_init.2.1 41 = .ok (.putfield 22, 3) := by decide +kernel
theorem d_R_init_44 : decode m_R_init.2.1 44 = .ok (.aload_n 0, 1) := by decide +kernel
theorem d_R_init_45 : decode m_R_init.2.1 45 = .ok (.bipush 10, 2) := by decide +kernel
theorem d_R_init_47 : decode m_R_init.2.1 47 = .ok (.newarray .int, 2) := by decide +kernel
theorem d_R_init_49 : decode m_R_init.2.1 49 = .ok (.putfield 25, 3) := by decide +kernel
theorem d_R_init_52 : decode m_R_init.2.1 52 = .ok (.aload_n 0, 1) := by decide +kernel
theorem d_R_init_53 : decode m_R_init.2.1 53 = .ok (.bipush 10, 2) := by decide +kernel
theorem d_R_init_55 : decode m_R_init.2.1 55 = .ok (.newarray .int, 2) := by decide +kernel
theorem d_R_init_57 : decode m_R_init.2.1 57 = .ok (.putfield 28, 3) := by decide +kernel
theorem d_R_init_60 : decode m_R_init.2.1 60 = .ok (.aload_n 0, 1) := by decide +kernel
theorem d_R_init_61 : decode m_R_init.2.1 61 = .ok (.bipush 10, 2) := by decide +kernel
theorem d_R_init_63 : decode m_R_init.2.1 63 = .ok (.newarray .int, 2) := by decide +kernel
theorem d_R_init_65 : decode m_R_init.2.1 65 = .ok (.putfield 31, 3) := by decide +kernel
theorem d_R_init_68 : decode m_R_init.2.1 68 = .ok (.aload_n 0, 1) := by decide +kernel
theorem d_R_init_69 : decode m_R_init.2.1 69 = .ok (.bipush 10, 2) := by decide +kernel
theorem d_R_init_71 : decode m_R_init.2.1 71 = .ok (.newarray .int, 2) := by decide +kernel
theorem d_R_init_73 : decode m_R_init.2.1 73 = .ok (.putfield 34, 3) := by decide +kernel
theorem d_R_init_76 : decode m_R_init.2.1 76 = .ok (.aload_n 0, 1) := by decide +kernel
theorem d_R_init_77 : decode m_R_init.2.1 77 = .ok (.bipush 10, 2) := by decide +kernel
theorem d_R_init_79 : decode m_R_init.2.1 79 = .ok (.newarray .boolean, 2) := by decide +kernel
theorem d_R_init_81 : decode m_R_init.2.1 81 = .ok (.putfield 37, 3) := by decide +kernel
theorem d_R_init_84 : decode m_R_init.2.1 84 = .ok (.aload_n 0, 1) := by decide +kernel
theorem d_R_init_85 : decode m_R_init.2.1 85 = .ok (.bipush 10, 2) := by decide +kernel
theorem d_R_init_87 : decode m_R_init.2.1 87 = .ok (.newarray .int, 2) := by decide +kernel
theorem d_R_init_89 : decode m_R_init.2.1 89 = .ok (.putfield 41, 3) := by decide +kernel
theorem d_R_init_92 : decode m_R_init.2.1 92 = .ok (.aload_n 0, 1) := by decide +kernel
theorem d_R_init_93 : decode m_R_init.2.1 93 = .ok (.bipush 10, 2) := by decide +kernel
theorem d_R_init_95 : decode m_R_init.2.1 95 = .ok (.newarray .int, 2) := by decide +kernel
theorem d_R_init_97 : decode m_R_init.2.1 97 = .ok (.putfield 44, 3) := by decide +kernel
theorem d_R_init_100 : decode m_R_init.2.1 100 = .ok (.aload_n 0, 1) := by decide +kernel
theorem d_R_init_101 : decode m_R_init.2.1 101 = .ok (.bipush 10, 2) := by decide +kernel
theorem d_R_init_103 : decode m_R_init.2.1 103 = .ok (.newarray .int, 2) := by decide +kernel
theorem d_R_init_105 : decode m_R_init.2.1 105 = .ok (.putfield 47, 3) := by decide +kernel
theorem d_R_init_108 : decode m_R_init.2.1 108 = .ok (.aload_n 0, 1) := by decide +kernel
theorem d_R_init_109 : decode m_R_init.2.1 109 = .ok (.bipush 10, 2) := by decide +kernel
theorem d_R_init_111 : decode m_R_init.2.1 111 = .ok (.newarray .boolean, 2) := by decide +kernel
theorem d_R_init_113 : decode m_R_init.2.1 113 = .ok (.putfield 50, 3) := by decide +kernel
theorem d_R_init_116 : decode m_R_init.2.1 116 = .ok (.aload_n 0, 1) := by decide +kernel
theorem d_R_init_117 : decode m_R_init.2.1 117 = .ok (.bipush 10, 2) := by decide +kernel
theorem d_R_init_119 : decode m_R_init.2.1 119 = .ok (.newarray .int, 2) := by decide +kernel
theorem d_R_init_121 : decode m_R_init.2.1 121 = .ok (.putfield 53, 3) := by decide +kernel
theorem d_R_init_124 : decode m_R_init.2.1 124 = .ok (.aload_n 0, 1) := by decide +kernel
theorem d_R_init_125 : decode m_R_init.2.1 125 = .ok (.bipush 10, 2) := by decide +kernel
theorem d_R_init_127 : decode m_R_init.2.1 127 = .ok (.newarray .int, 2) := by decide +kernel
theorem d_R_init_129 : decode m_R_init.2.1 129 = .ok (.putfield 56, 3) := by decide +kernel
theorem d_R_init_132 : decode m_R_init.2.1 132 = .ok (.aload_n 0, 1) := by decide +kernel
theorem d_R_init_133 : decode m_R_init.2.1 133 = .ok (.bipush 10, 2) := by decide +kernel
theorem d_R_init_135 : decode m_R_init.2.1 135 = .ok (.newarray .int, 2) := by decide +kernel
theorem d_R_init_137 : decode m_R_init.2.1 137 = .ok (.putfield 59, 3) := by decide +kernel
theorem d_R_init_140 : decode m_R_init.2.1 140 = .ok (.aload_n 0, 1) := by decide +kernel
theorem d_R_init_141 : decode m_R_init.2.1 141 = .ok (.bipush 10, 2) := by decide +kernel
theorem d_R_init_143 : decode m_R_init.2.1 143 = .ok (.newarray .int, 2) := by decide +kernel
theorem d_R_init_145 : decode m_R_init.2.1 145 = .ok (.putfield 62, 3) := by decide +kernel
theorem d_R_init_148 : decode m_R_init.2.1 148 = .ok (.aload_n 0, 1) := by decide +kernel
theorem d_R_init_149 : decode m_R_init.2.1 149 = .ok (.bipush 10, 2) := by decide +kernel
theorem d_R_init_151 : decode m_R_init.2.1 151 = .ok (.newarray .int, 2) := by decide +kernel
theorem d_R_init_153 : decode m_R_init.2.1 153 = .ok (.putfield 65, 3) := by decide +kernel
theorem d_R_init_156 : decode m_R_init.2.1 156 = .ok (.aload_n 0, 1) := by decide +kernel
theorem d_R_init_157 : decode m_R_init.2.1 157 = .ok (.bipush 10, 2) := by decide +kernel
theorem d_R_init_159 : decode m_R_init.2.1 159 = .ok (.newarray .int, 2) := by decide +kernel
theorem d_R_init_161 : decode m_R_init.2.1 161 = .ok (.putfield 68, 3) := by decide +kernel
theorem d_R_init_164 : decode m_R_init.2.1 164 = .ok (.aload_n 0, 1) := by decide +kernel
theorem d_R_init_165 : decode m_R_init.2.1 165 = .ok (.bipush 10, 2) := by decide +kernel
theorem d_R_init_167 : decode m_R_init.2.1 167 = .ok (.newarray .int, 2) := by decide +kernel
theorem d_R_init_169 : decode m_R_init.2.1 169 = .ok (.putfield 71, 3) := by decide +kernel
theorem d_R_init_172 : decode m_R_init.2.1 172 = .ok (.aload_n 0, 1) := by decide +kernel
theorem d_R_init_173 : decode m_R_init.2.1 173 = .ok (.bipush 10, 2) := by decide +kernel
theorem d_R_init_175 : decode m_R_init.2.1 175 = .ok (.newarray .int, 2) := by decide +kernel
theorem d_R_init_177 : decode m_R_init.2.1 177 = .ok (.putfield 74, 3) := by decide +kernel
theorem d_R_init_180 : decode m_R_init.2.1 180 = .ok (.aload_n 0, 1) := by decide +kernel
theorem d_R_init_181 : decode m_R_init.2.1 181 = .ok (.sipush 160, 3) := by decide +kernel
theorem d_R_init_184 : decode m_R_init.2.1 184 = .ok (.newarray .int, 2) := by decide +kernel
theorem d_R_init_186 : decode m_R_init.2.1 186 = .ok (.putfield 77, 3) := by decide +kernel
theorem d_R_init_189 : decode m_R_init.2.1 189 = .ok (.aload_n 0, 1) := by decide +kernel
theorem d_R_init_190 : decode m_R_init.2.1 190 = .ok (.sipush 160, 3) := by decide +kernel
theorem d_R_init_193 : decode m_R_init.2.1 193 = .ok (.newarray .int, 2) := by decide +kernel
theorem d_R_init_195 : decode m_R_init.2.1 195 = .ok (.putfield 80, 3) := by decide +kernel
theorem d_R_init_198 : decode m_R_init.2.1 198 = .ok (.aload_n 0, 1) := by decide +kernel
theorem d_R_init_199 : decode m_R_init.2.1 199 = .ok (.sipush 160, 3) := by decide +kernel
theorem d_R_init_202 : decode m_R_init.2.1 202 = .ok (.newarray .int, 2) := by decide +kernel
theorem d_R_init_204 : decode m_R_init.2.1 204 = .ok (.putfield 83, 3) := by decide +kernel
theorem d_R_init_207 : decode m_R_init.2.1 207 = .ok (.aload_n 0, 1) := by decide +kernel
theorem d_R_init_208 : decode m_R_init.2.1 208 = .ok (.sipush 160, 3) := by decide +kernel
theorem d_R_init_211 : decode m_R_init.2.1 211 = .ok (.newarray .int, 2) := by decide +kernel
theorem d_R_init_213 : decode m_R_init.2.1 213 = .ok (.putfield 86, 3) := by decide +kernel
theorem d_R_init_216 : decode m_R_init.2.1 216 = .ok (.aload_n 0, 1) := by decide +kernel
theorem d_R_init_217 : decode m_R_init.2.1 217 = .ok (.sipush 160, 3) := by decide +kernel
theorem d_R_init_220 : decode m_R_init.2.1 220 = .ok (.newarray .int, 2) := by decide +kernel
theorem d_R_init_222 : decode m_R_init.2.1 222 = .ok (.putfield 89, 3) := by decide +kernel
theorem d_R_init_225 : decode m_R_init.2.1 225 = .ok (.aload_n 0, 1) := by decide +kernel
theorem d_R_init_226 : decode m_R_init.2.1 226 = .ok (.sipush 160, 3) := by decide +kernel
theorem d_R_init_229 : decode m_R_init.2.1 229 = .ok (.newarray .int, 2) := by decide +kernel
theorem d_R_init_231 : decode m_R_init.2.1 231 = .ok (.putfield 92, 3) := by decide +kernel
theorem d_R_init_234 : decode m_R_init.2.1 234 = .ok (.aload_n 0, 1) := by decide +kernel
theorem d_R_init_235 : decode m_R_init.2.1 235 = .ok (.sipush 640, 3) := by decide +kernel
theorem d_R_init_238 : decode m_R_init.2.1 238 = .ok (.newarray .int, 2) := by decide +kernel
theorem d_R_init_240 : decode m_R_init.2.1 240 = .ok (.putfield 95, 3) := by decide +kernel
theorem d_R_init_243 : decode m_R_init.2.1 243 = .ok (.aload_n 0, 1) := by decide +kernel
theorem d_R_init_244 : decode m_R_init.2.1 244 = .ok (.sipush 640, 3) := by decide +kernel
theorem d_R_init_247 : decode m_R_init.2.1 247 = .ok (.newarray .int, 2) := by decide +kernel
theorem d_R_init_249 : decode m_R_init.2.1 249 = .ok (.putfield 98, 3) := by decide +kernel
theorem d_R_init_252 : decode m_R_init.2.1 252 = .ok (.aload_n 0, 1) := by decide +kernel
theorem d_R_init_253 : decode m_R_init.2.1 253 = .ok (.sipush 160, 3) := by decide +kernel
theorem d_R_init_256 : decode m_R_init.2.1 256 = .ok (.newarray .boolean, 2) := by decide +kernel
theorem d_R_init_258 : decode m_R_init.2.1 258 = .ok (.putfield 101, 3) := by decide +kernel
theorem d_R_init_261 : decode m_R_init.2.1 261 = .ok (.aload_n 0, 1) := by decide +kernel
theorem d_R_init_262 : decode m_R_init.2.1 262 = .ok (.sipush 160, 3) := by decide +kernel
theorem d_R_init_265 : decode m_R_init.2.1 265 = .ok (.newarray .boolean, 2) := by decide +kernel
theorem d_R_init_267 : decode m_R_init.2.1 267 = .ok (.putfield 104, 3) := by decide +kernel
theorem d_R_init_270 : decode m_R_init.2.1 270 = .ok (.aload_n 0, 1) := by decide +kernel
theorem d_R_init_271 : decode m_R_init.2.1 271 = .ok (.sipush 171, 3) := by decide +kernel
theorem d_R_init_274 : decode m_R_init.2.1 274 = .ok (.newarray .int, 2) := by decide +kernel
theorem d_R_init_276 : decode m_R_init.2.1 276 = .ok (.putfield 107, 3) := by decide +kernel
theorem d_R_init_279 : decode m_R_init.2.1 279 = .ok (.aload_n 0, 1) := by decide +kernel
theorem d_R_init_280 : decode m_R_init.2.1 280 = .ok (.sipush 1539, 3) := by decide +kernel
theorem d_R_init_283 : decode m_R_init.2.1 283 = .ok (.newarray .int, 2) := by decide +kernel
theorem d_R_init_285 : decode m_R_init.2.1 285 = .ok (.putfield 110, 3) := by decide +kernel
theorem d_R_init_288 : decode m_R_init.2.1 288 = .ok (.aload_n 0, 1) := by decide +kernel
theorem d_R_init_289 : decode m_R_init.2.1 289 = .ok (.sipush 1539, 3) := by decide +kernel
theorem d_R_init_292 : decode m_R_init.2.1 292 = .ok (.newarray .int, 2) := by decide +kernel
theorem d_R_init_294 : decode m_R_init.2.1 294 = .ok (.putfield 113, 3) := by decide +kernel
theorem d_R_init_297 : decode m_R_init.2.1 297 = .ok (.aload_n 0, 1) := by decide +kernel
theorem d_R_init_298 : decode m_R_init.2.1 298 = .ok (.bipush 10, 2) := by decide +kernel
theorem d_R_init_300 : decode m_R_init.2.1 300 = .ok (.newarray .int, 2) := by decide +kernel
theorem d_R_init_302 : decode m_R_init.2.1 302 = .ok (.putfield 116, 3) := by decide +kernel
theorem d_R_init_305 : decode m_R_init.2.1 305 = .ok (.aload_n 0, 1) := by decide +kernel
theorem d_R_init_306 : decode m_R_init.2.1 306 = .ok (.iconst 4, 1) := by decide +kernel
theorem d_R_init_307 : decode m_R_init.2.1 307 = .ok (.newarray .int, 2) := by decide +kernel
theorem d_R_init_309 : decode m_R_init.2.1 309 = .ok (.putfield 119, 3) := by decide +kernel
theorem d_R_init_312 : decode m_R_init.2.1 312 = .ok (.aload_n 0, 1) := by decide +kernel
theorem d_R_init_313 : decode m_R_init.2.1 313 = .ok (.iconst 4, 1) := by decide +kernel
theorem d_R_init_314 : decode m_R_init.2.1 314 = .ok (.newarray .int, 2) := by decide +kernel
theorem d_R_init_316 : decode m_R_init.2.1 316 = .ok (.putfield 122, 3) := by decide +kernel
theorem d_R_init_319 : decode m_R_init.2.1 319 = .ok (.aload_n 0, 1) := by decide +kernel
theorem d_R_init_320 : decode m_R_init.2.1 320 = .ok (.iconst 4, 1) := by decide +kernel
theorem d_R_init_321 : decode m_R_init.2.1 321 = .ok (.newarray .int, 2) := by decide +kernel
theorem d_R_init_323 : decode m_R_init.2.1 323 = .ok (.putfield 125, 3) := by decide +kernel
theorem d_R_init_326 : decode m_R_init.2.1 326 = .ok (.aload_n 0, 1) := by decide +kernel
theorem d_R_init_327 : decode m_R_init.2.1 327 = .ok (.bipush 24, 2) := by decide +kernel
theorem d_R_init_329 : decode m_R_init.2.1 329 = .ok (.newarray .int, 2) := by decide +kernel
theorem d_R_init_331 : decode m_R_init.2.1 331 = .ok (.putfield 128, 3) := by decide +kernel
theorem d_R_init_334 : decode m_R_init.2.1 334 = .ok (.aload_n 0, 1) := by decide +kernel
theorem d_R_init_335 : decode m_R_init.2.1 335 = .ok (.iconst 4, 1) := by decide +kernel
theorem d_R_init_336 : decode m_R_init.2.1 336 = .ok (.newarray .boolean, 2) := by decide +kernel
theorem d_R_init_338 : decode m_R_init.2.1 338 = .ok (.putfield 131, 3) := by decide +kernel
theorem d_R_init_341 : decode m_R_init.2.1 341 = .ok (.aload_n 0, 1) := by decide +kernel
theorem d_R_init_342 : decode m_R_init.2.1 342 = .ok (.iconst (-1), 1) := by decide +kernel
theorem d_R_init_343 : decode m_R_init.2.1 343 = .ok (.putfield 134, 3) := by decide +kernel
theorem d_R_init_346 : decode m_R_init.2.1 346 = .ok (.return_, 1) := by decide +kernel
theorem d_R_in_0 : decode m_R_in.2.1 0 = .ok (.iload_n 0, 1) := by decide +kernel
theorem d_R_in_1 : decode m_R_in.2.1 1 = .ok (.iload_n 1, 1) := by decide +kernel
theorem d_R_in_2 : decode m_R_in.2.1 2 = .ok (.if_icmp .lt 12, 3) := by decide +kernel
theorem d_R_in_5 : decode m_R_in.2.1 5 = .ok (.iload_n 0, 1) := by decide +kernel
theorem d_R_in_6 : decode m_R_in.2.1 6 = .ok (.iload_n 2, 1) := by decide +kernel
theorem d_R_in_7 : decode m_R_in.2.1 7 = .ok (.if_icmp .gt 7, 3) := by decide +kernel
theorem d_R_in_10 : decode m_R_in.2.1 10 = .ok (.iconst 1, 1) := by decide +kernel
theorem d_R_in_11 : decode m_R_in.2.1 11 = .ok (.goto 4, 3) := by decide +kernel
theorem d_R_in_14 : decode m_R_in.2.1 14 = .ok (.iconst 0, 1) := by decide +kernel
theorem d_R_in_15 : decode m_R_in.2.1 15 = .ok (.ireturn, 1) := by decide +kernel
theorem d_R_isEffect_0 : decode m_R_isEffect.2.1 0 = .ok (.iload_n 1, 1) := by decide +kernel
theorem d_R_isEffect_1 : decode m_R_isEffect.2.1 1 = .ok (.iconst 0, 1) := by decide +kernel
theorem d_R_isEffect_2 : decode m_R_isEffect.2.1 2 = .ok (.aload_n 0, 1) := by decide +kernel
theorem d_R_isEffect_3 : decode m_R_isEffect.2.1 3 = .ok (.getfield 138, 3) := by decide +kernel
theorem d_R_isEffect_6 : decode m_R_isEffect.2.1 6 = .ok (.iconst 1, 1) := by decide +kernel
theorem d_R_isEffect_7 : decode m_R_isEffect.2.1 7 = .ok (.isub, 1) := by decide +kernel
theorem d_R_isEffect_8 : decode m_R_isEffect.2.1 8 = .ok (.invokestatic 141, 3) := by decide +kernel
theorem d_R_isEffect_11 : decode m_R_isEffect.2.1 11 = .ok (.ireturn, 1) := by decide +kernel
theorem d_R_needs_0 : decode m_R_needs.2.1 0 = .ok (.iload_n 0, 1) := by decide +kernel
theorem d_R_needs_1 : decode m_R_needs.2.1 1 = .ok (.iconst 5, 1) := by decide +kernel
theorem d_R_needs_2 : decode m_R_needs.2.1 2 = .ok (.if_icmp .eq 9, 3) := by decide +kernel
theorem d_R_needs_5 : decode m_R_needs.2.1 5 = .ok (.iload_n 0, 1) := by decide +kernel
theorem d_R_needs_6 : decode m_R_needs.2.1 6 = .ok (.bipush 7, 2) := by decide +kernel
theorem d_R_needs_8 : decode m_R_needs.2.1 8 = .ok (.if_icmp .ne 7, 3) := by decide +kernel
theorem d_R_needs_11 : decode m_R_needs.2.1 11 = .ok (.iconst 3, 1) := by decide +kernel
theorem d_R_needs_12 : decode m_R_needs.2.1 12 = .ok (.goto 46, 3) := by decide +kernel
theorem d_R_needs_15 : decode m_R_needs.2.1 15 = .ok (.iload_n 0, 1) := by decide +kernel
theorem d_R_needs_16 : decode m_R_needs.2.1 16 = .ok (.iconst 4, 1) := by decide +kernel
theorem d_R_needs_17 : decode m_R_needs.2.1 17 = .ok (.if_icmp .eq 21, 3) := by decide +kernel
theorem d_R_needs_20 : decode m_R_needs.2.1 20 = .ok (.iload_n 0, 1) := by decide +kernel
theorem d_R_needs_21 : decode m_R_needs.2.1 21 = .ok (.bipush 6, 2) := by decide +kernel
theorem d_R_needs_23 : decode m_R_needs.2.1 23 = .ok (.if_icmp .eq 15, 3) := by decide +kernel
theorem d_R_needs_26 : decode m_R_needs.2.1 26 = .ok (.iload_n 0, 1) := by decide +kernel
theorem d_R_needs_27 : decode m_R_needs.2.1 27 = .ok (.bipush 15, 2) := by decide +kernel
theorem d_R_needs_29 : decode m_R_needs.2.1 29 = .ok (.if_icmp .eq 9, 3) := by decide +kernel
theorem d_R_needs_32 : decode m_R_needs.2.1 32 = .ok (.iload_n 0, 1) := by decide +kernel
theorem d_R_needs_33 : decode m_R_needs.2.1 33 = .ok (.bipush 25, 2) := by decide +kernel
theorem d_R_needs_35 : decode m_R_needs.2.1 35 = .ok (.if_icmp .ne 7, 3) := by decide +kernel
theorem d_R_needs_38 : decode m_R_needs.2.1 38 = .ok (.iconst 2, 1) := by decide +kernel
theorem d_R_needs_39 : decode m_R_needs.2.1 39 = .ok (.goto 19, 3) := by decide +kernel
theorem d_R_needs_42 : decode m_R_needs.2.1 42 = .ok (.iload_n 0, 1) := by decide +kernel
theorem d_R_needs_43 : decode m_R_needs.2.1 43 = .ok (.bipush 8, 2) := by decide +kernel
theorem d_R_needs_45 : decode m_R_needs.2.1 45 = .ok (.bipush 12, 2) := by decide +kernel
theorem d_R_needs_47 : decode m_R_needs.2.1 47 = .ok (.invokestatic 141, 3) := by decide +kernel
theorem d_R_needs_50 : decode m_R_needs.2.1 50 = .ok (.ifCond .eq 7, 3) := by decide +kernel
theorem d_R_needs_53 : decode m_R_needs.2.1 53 = .ok (.iconst 1, 1) := by decide +kernel
theorem d_R_needs_54 : decode m_R_needs.2.1 54 = .ok (.goto 4, 3) := by decide +kernel
theorem d_R_needs_57 : decode m_R_needs.2.1 57 = .ok (.iconst 0, 1) := by decide +kernel
theorem d_R_needs_58 : decode m_R_needs.2.1 58 = .ok (.ireturn, 1) := by decide +kernel
theorem d_R_effect_0 : decode m_R_effect.2.1 0 = .ok (.iload_n 1, 1) := by decide +kernel
theorem d_R_effect_1 : decode m_R_effect.2.1 1 = .ok (.invokestatic 145, 3) := by decide +kernel
theorem d_R_effect_4 : decode m_R_effect.2.1 4 = .ok (.istore 5, 2) := by decide +kernel
theorem d_R_effect_6 : decode m_R_effect.2.1 6 = .ok (.iload_n 1, 1) := by decide +kernel
theorem d_R_effect_7 : decode m_R_effect.2.1 7 = .ok (.iconst 0, 1) := by decide +kernel
theorem d_R_effect_8 : decode m_R_effect.2.1 8 = .ok (.bipush 25, 2) := by decide +kernel
theorem d_R_effect_10 : decode m_R_effect.2.1 10 = .ok (.invokestatic 141, 3) := by decide +kernel
theorem d_R_effect_13 : decode m_R_effect.2.1 13 = .ok (.ifCond .eq 65, 3) := by decide +kernel
theorem d_R_effect_16 : decode m_R_effect.2.1 16 = .ok (.iload 5, 2) := by decide +kernel
theorem d_R_effect_18 : decode m_R_effect.2.1 18 = .ok (.ifCond .le 11, 3) := by decide +kernel
theorem d_R_effect_21 : decode m_R_effect.2.1 21 = .ok (.aload_n 0, 1) := by decide +kernel
theorem d_R_effect_22 : decode m_R_effect.2.1 22 = .ok (.iload_n 2, 1) := by decide +kernel
theorem d_R_effect_23 : decode m_R_effect.2.1 23 = .ok (.invokevirtual 149, 3) := by decide +kernel
theorem d_R_effect_26 : decode m_R_effect.2.1 26 = .ok (.ifCond .eq 52, 3) := by decide +kernel
theorem d_R_effect_29 : decode m_R_effect.2.1 29 = .ok (.iload 5, 2) := by decide +kernel
theorem d_R_effect_31 : decode m_R_effect.2.1 31 = .ok (.iconst 1, 1) := by decide +kernel
theorem d_R_effect_32 : decode m_R_effect.2.1 32 = .ok (.if_icmp .le 11, 3) := by decide +kernel
theorem d_R_effect_35 : decode m_R_effect.2.1 35 = .ok (.aload_n 0, 1) := by decide +kernel
theorem d_R_effect_36 : decode m_R_effect.2.1 36 = .ok (.iload_n 3, 1) := by decide +kernel
theorem d_R_effect_37 : decode m_R_effect.2.1 37 = .ok (.invokevirtual 149, 3) := by decide +kernel
theorem d_R_effect_40 : decode m_R_effect.2.1 40 = .ok (.ifCond .eq 38, 3) := by decide +kernel
theorem d_R_effect_43 : decode m_R_effect.2.1 43 = .ok (.iload 5, 2) := by decide +kernel
theorem d_R_effect_45 : decode m_R_effect.2.1 45 = .ok (.iconst 2, 1) := by decide +kernel
theorem d_R_effect_46 : decode m_R_effect.2.1 46 = .ok (.if_icmp .le 12, 3) := by decide +kernel
theorem d_R_effect_49 : decode m_R_effect.2.1 49 = .ok (.aload_n 0, 1) := by decide +kernel
theorem d_R_effect_50 : decode m_R_effect.2.1 50 = .ok (.iload 4, 2) := by decide +kernel
theorem d_R_effect_52 : decode m_R_effect.2.1 52 = .ok (.invokevirtual 149, 3) := by decide +kernel
theorem d_R_effect_55 : decode m_R_effect.2.1 55 = .ok (.ifCond .eq 23, 3) := by decide +kernel
theorem d_R_effect_58 : decode m_R_effect.2.1 58 = .ok (.iload_n 1, 1) := by decide +kernel
theorem d_R_effect_59 : decode m_R_effect.2.1 59 = .ok (.bipush 19, 2) := by decide +kernel
theorem d_R_effect_61 : decode m_R_effect.2.1 61 = .ok (.bipush 24, 2) := by decide +kernel
theorem d_R_effect_63 : decode m_R_effect.2.1 63 = .ok (.invokestatic 141, 3) := by decide +kernel
theorem d_R_effect_66 : decode m_R_effect.2.1 66 = .ok (.ifCond .eq 14, 3) := by decide +kernel
theorem d_R_effect_69 : decode m_R_effect.2.1 69 = .ok (.iload_n 2, 1) := by decide +kernel
theorem d_R_effect_70 : decode m_R_effect.2.1 70 = .ok (.iconst 0, 1) := by decide +kernel
theorem d_R_effect_71 : decode m_R_effect.2.1 71 = .ok (.iconst 3, 1) := by decide +kernel
theorem d_R_effect_72 : decode m_R_effect.2.1 72 = .ok (.invokestatic 141, 3) := by decide +kernel
theorem d_R_effect_75 : decode m_R_effect.2.1 75 = .ok (.ifCond .ne 5, 3) := by decide +kernel
theorem d_R_effect_78 : decode m_R_effect.2.1 78 = .ok (.iconst (-1), 1) := by decide +kernel
theorem d_R_effect_79 : decode m_R_effect.2.1 79 = .ok (.ireturn, 1) := by decide +kernel
theorem d_R_effect_80 : decode m_R_effect.2.1 80 = .ok (.aload_n 0, 1) := by decide +kernel
theorem d_R_effect_81 : decode m_R_effect.2.1 81 = .ok (.getfield 138, 3) := by decide +kernel
theorem d_R_effect_84 : decode m_R_effect.2.1 84 = .ok (.bipush 40, 2) := by decide +kernel
theorem d_R_effect_86 : decode m_R_effect.2.1 86 = .ok (.if_icmp .ne 6, 3) := by decide +kernel
theorem d_R_effect_89 : decode m_R_effect.2.1 89 = .ok (.bipush (-2), 2) := by decide +kernel
theorem d_R_effect_91 : decode m_R_effect.2.1 91 = .ok (.ireturn, 1) := by decide +kernel
theorem d_R_effect_92 : decode m_R_effect.2.1 92 = .ok (.aload_n 0, 1) := by decide +kernel
theorem d_R_effect_93 : decode m_R_effect.2.1 93 = .ok (.getfield 7, 3) := by decide +kernel
theorem d_R_effect_96 : decode m_R_effect.2.1 96 = .ok (.aload_n 0, 1) := by decide +kernel
theorem d_R_effect_97 : decode m_R_effect.2.1 97 = .ok (.getfield 138, 3) := by decide +kernel
theorem d_R_effect_100 : decode m_R_effect.2.1 100 = .ok (.iload_n 1, 1) := by decide +kernel
theorem d_R_effect_101 : decode m_R_effect.2.1 101 = .ok (.iastore, 1) := by decide +kernel
theorem d_R_effect_102 : decode m_R_effect.2.1 102 = .ok (.aload_n 0, 1) := by decide +kernel
theorem d_R_effect_103 : decode m_R_effect.2.1 103 = .ok (.getfield 13, 3) := by decide +kernel
theorem d_R_effect_106 : decode m_R_effect.2.1 106 = .ok (.aload_n 0, 1) := by decide +kernel
theorem d_R_effect_107 : decode m_R_effect.2.1 107 = .ok (.getfield 138, 3) := by decide +kernel
theorem d_R_effect_110 : decode m_R_effect.2.1 110 = .ok (.iload_n 2, 1) := by decide +kernel
theorem d_R_effect_111 : decode m_R_effect.2.1 111 = .ok (.iastore, 1) := by decide +kernel
theorem d_R_effect_112 : decode m_R_effect.2.1 112 = .ok (.aload_n 0, 1) := by decide +kernel
theorem d_R_effect_113 : decode m_R_effect.2.1 113 = .ok (.getfield 16, 3) := by decide +kernel
theorem d_R_effect_116 : decode m_R_effect.2.1 116 = .ok (.aload_n 0, 1) := by decide +kernel
theorem d_R_effect_117 : decode m_R_effect.2.1 117 = .ok (.getfield 138, 3) := by decide +kernel
theorem d_R_effect_120 : decode m_R_effect.2.1 120 = .ok (.iload_n 3, 1) := by decide +kernel
theorem d_R_effect_121 : decode m_R_effect.2.1 121 = .ok (.iastore, 1) := by decide +kernel
theorem d_R_effect_122 : decode m_R_effect.2.1 122 = .ok (.aload_n 0, 1) := by decide +kernel
theorem d_R_effect_123 : decode m_R_effect.2.1 123 = .ok (.getfield 19, 3) := by decide +kernel
theorem d_R_effect_126 : decode m_R_effect.2.1 126 = .ok (.aload_n 0, 1) := by decide +kernel
theorem d_R_effect_127 : decode m_R_effect.2.1 127 = .ok (.getfield 138, 3) := by decide +kernel
theorem d_R_effect_130 : decode m_R_effect.2.1 130 = .ok (.iload 4, 2) := by decide +kernel
theorem d_R_effect_132 : decode m_R_effect.2.1 132 = .ok (.iastore, 1) := by decide +kernel
theorem d_R_effect_133 : decode m_R_effect.2.1 133 = .ok (.aload_n 0, 1) := by decide +kernel
theorem d_R_effect_134 : decode m_R_effect.2.1 134 = .ok (.dup, 1) := by decide +kernel
theorem d_R_effect_135 : decode m_R_effect.2.1 135 = .ok (.getfield 138, 3) := by decide +kernel
theorem d_R_effect_138 : decode m_R_effect.2.1 138 = .ok (.dup_x1, 1) := by decide +kernel
theorem d_R_effect_139 : decode m_R_effect.2.1 139 = .ok (.iconst 1, 1) := by decide +kernel
theorem d_R_effect_140 : decode m_R_effect.2.1 140 = .ok (.iadd, 1) := by decide +kernel
theorem d_R_effect_141 : decode m_R_effect.2.1 141 = .ok (.putfield 138, 3) := by decide +kernel
theorem d_R_effect_144 : decode m_R_effect.2.1 144 = .ok (.ireturn, 1) := by decide +kernel
theorem d_R_make_0 : decode m_R_make.2.1 0 = .ok (.aload_n 0, 1) := by decide +kernel
theorem d_R_make_1 : decode m_R_make.2.1 1 = .ok (.dup, 1) := by decide +kernel
theorem d_R_make_2 : decode m_R_make.2.1 2 = .ok (.getfield 153, 3) := by decide +kernel
theorem d_R_make_5 : decode m_R_make.2.1 5 = .ok (.dup_x1, 1) := by decide +kernel
theorem d_R_make_6 : decode m_R_make.2.1 6 = .ok (.iconst 1, 1) := by decide +kernel
theorem d_R_make_7 : decode m_R_make.2.1 7 = .ok (.iadd, 1) := by decide +kernel
theorem d_R_make_8 : decode m_R_make.2.1 8 = .ok (.putfield 153, 3) := by decide +kernel
theorem d_R_make_11 : decode m_R_make.2.1 11 = .ok (.istore 4, 2) := by decide +kernel
theorem d_R_make_13 : decode m_R_make.2.1 13 = .ok (.aload_n 0, 1) := by decide +kernel
theorem d_R_make_14 : decode m_R_make.2.1 14 = .ok (.getfield 22, 3) := by decide +kernel
theorem d_R_make_17 : decode m_R_make.2.1 17 = .ok (.iload 4, 2) := by decide +kernel
theorem d_R_make_19 : decode m_R_make.2.1 19 = .ok (.iconst 0, 1) := by decide +kernel
theorem d_R_make_20 : decode m_R_make.2.1 20 = .ok (.iastore, 1) := by decide +kernel
theorem d_R_make_21 : decode m_R_make.2.1 21 = .ok (.aload_n 0, 1) := by decide +kernel
theorem d_R_make_22 : decode m_R_make.2.1 22 = .ok (.getfield 25, 3) := by decide +kernel
theorem d_R_make_25 : decode m_R_make.2.1 25 = .ok (.iload 4, 2) := by decide +kernel
theorem d_R_make_27 : decode m_R_make.2.1 27 = .ok (.iconst 0, 1) := by decide +kernel
theorem d_R_make_28 : decode m_R_make.2.1 28 = .ok (.iastore, 1) := by decide +kernel
theorem d_R_make_29 : decode m_R_make.2.1 29 = .ok (.aload_n 0, 1) := by decide +kernel
theorem d_R_make_30 : decode m_R_make.2.1 30 = .ok (.getfield 31, 3) := by decide +kernel
theorem d_R_make_33 : decode m_R_make.2.1 33 = .ok (.iload 4, 2) := by decide +kernel
theorem d_R_make_35 : decode m_R_make.2.1 35 = .ok (.iload_n 3, 1) := by decide +kernel
theorem d_R_make_36 : decode m_R_make.2.1 36 = .ok (.iastore, 1) := by decide +kernel
theorem d_R_make_37 : decode m_R_make.2.1 37 = .ok (.aload_n 0, 1) := by decide +kernel
theorem d_R_make_38 : decode m_R_make.2.1 38 = .ok (.getfield 34, 3) := by decide +kernel
theorem d_R_make_41 : decode m_R_make.2.1 41 = .ok (.iload 4, 2) := by decide +kernel
theorem d_R_make_43 : decode m_R_make.2.1 43 = .ok (.iconst 0, 1) := by decide +kernel
theorem d_R_make_44 : decode m_R_make.2.1 44 = .ok (.iastore, 1) := by decide +kernel
theorem d_R_make_45 : decode m_R_make.2.1 45 = .ok (.aload_n 0, 1) := by decide +kernel
theorem d_R_make_46 : decode m_R_make.2.1 46 = .ok (.getfield 37, 3) := by decide +kernel
theorem d_R_make_49 : decode m_R_make.2.1 49 = .ok (.iload 4, 2) := by decide +kernel
theorem d_R_make_51 : decode m_R_make.2.1 51 = .ok (.iconst 0, 1) := by decide +kernel
theorem d_R_make_52 : decode m_R_make.2.1 52 = .ok (.bastore, 1) := by decide +kernel
theorem d_R_make_53 : decode m_R_make.2.1 53 = .ok (.aload_n 0, 1) := by decide +kernel
theorem d_R_make_54 : decode m_R_make.2.1 54 = .ok (.getfield 41, 3) := by decide +kernel
theorem d_R_make_57 : decode m_R_make.2.1 57 = .ok (.iload 4, 2) := by decide +kernel
theorem d_R_make_59 : decode m_R_make.2.1 59 = .ok (.iload_n 1, 1) := by decide +kernel
theorem d_R_make_60 : decode m_R_make.2.1 60 = .ok (.iastore, 1) := by decide +kernel
theorem d_R_make_61 : decode m_R_make.2.1 61 = .ok (.aload_n 0, 1) := by decide +kernel
theorem d_R_make_62 : decode m_R_make.2.1 62 = .ok (.getfield 44, 3) := by decide +kernel
theorem d_R_make_65 : decode m_R_make.2.1 65 = .ok (.iload 4, 2) := by decide +kernel
theorem d_R_make_67 : decode m_R_make.2.1 67 = .ok (.iload_n 2, 1) := by decide +kernel
theorem d_R_make_68 : decode m_R_make.2.1 68 = .ok (.iastore, 1) := by decide +kernel
theorem d_R_make_69 : decode m_R_make.2.1 69 = .ok (.aload_n 0, 1) := by decide +kernel
theorem d_R_make_70 : decode m_R_make.2.1 70 = .ok (.getfield 53, 3) := by decide +kernel
theorem d_R_make_73 : decode m_R_make.2.1 73 = .ok (.iload 4, 2) := by decide +kernel
theorem d_R_make_75 : decode m_R_make.2.1 75 = .ok (.iconst 0, 1) := by decide +kernel
theorem d_R_make_76 : decode m_R_make.2.1 76 = .ok (.iastore, 1) := by decide +kernel
theorem d_R_make_77 : decode m_R_make.2.1 77 = .ok (.aload_n 0, 1) := by decide +kernel
theorem d_R_make_78 : decode m_R_make.2.1 78 = .ok (.getfield 74, 3) := by decide +kernel
theorem d_R_make_81 : decode m_R_make.2.1 81 = .ok (.iload 4, 2) := by decide +kernel
theorem d_R_make_83 : decode m_R_make.2.1 83 = .ok (.iconst 0, 1) := by decide +kernel
theorem d_R_make_84 : decode m_R_make.2.1 84 = .ok (.iastore, 1) := by decide +kernel
theorem d_R_make_85 : decode m_R_make.2.1 85 = .ok (.aload_n 0, 1) := by decide +kernel
theorem d_R_make_86 : decode m_R_make.2.1 86 = .ok (.getfield 116, 3) := by decide +kernel
theorem d_R_make_89 : decode m_R_make.2.1 89 = .ok (.aload_n 0, 1) := by decide +kernel
theorem d_R_make_90 : decode m_R_make.2.1 90 = .ok (.dup, 1) := by decide +kernel
theorem d_R_make_91 : decode m_R_make.2.1 91 = .ok (.getfield 156, 3) := by decide +kernel
theorem d_R_make_94 : decode m_R_make.2.1 94 = .ok (.dup_x1, 1) := by decide +kernel
theorem d_R_make_95 : decode m_R_make.2.1 95 = .ok (.iconst 1, 1) := by decide +kernel
theorem d_R_make_96 : decode m_R_make.2.1 96 = .ok (.iadd, 1) := by decide +kernel
theorem d_R_make_97 : decode m_R_make.2.1 97 = .ok (.putfield 156, 3) := by decide +kernel
theorem d_R_make_100 : decode m_R_make.2.1 100 = .ok (.iload 4, 2) := by decide +kernel
theorem d_R_make_102 : decode m_R_make.2.1 102 = .ok (.iastore, 1) := by decide +kernel
theorem d_R_make_103 : decode m_R_make.2.1 103 = .ok (.iload 4, 2) := by decide +kernel
theorem d_R_make_105 : decode m_R_make.2.1 105 = .ok (.ireturn, 1) := by decide +kernel
theorem d_R_start_0 : decode m_R_start.2.1 0 = .ok (.aload_n 0, 1) := by decide +kernel
theorem d_R_start_1 : decode m_R_start.2.1 1 = .ok (.iload_n 1, 1) := by decide +kernel
theorem d_R_start_2 : decode m_R_start.2.1 2 = .ok (.invokevirtual 149, 3) := by decide +kernel
theorem d_R_start_5 : decode m_R_start.2.1 5 = .ok (.ifCond .ne 5, 3) := by decide +kernel
theorem d_R_start_8 : decode m_R_start.2.1 8 = .ok (.iconst 0, 1) := by decide +kernel
theorem d_R_start_9 : decode m_R_start.2.1 9 = .ok (.ireturn, 1) := by decide +kernel
theorem d_R_start_10 : decode m_R_start.2.1 10 = .ok (.aload_n 0, 1) := by decide +kernel
theorem d_R_start_11 : decode m_R_start.2.1 11 = .ok (.iconst 1, 1) := by decide +kernel
theorem d_R_start_12 : decode m_R_start.2.1 12 = .ok (.putfield 159, 3) := by decide +kernel
theorem d_R_start_15 : decode m_R_start.2.1 15 = .ok (.aload_n 0, 1) := by decide +kernel
theorem d_R_start_16 : decode m_R_start.2.1 16 = .ok (.iconst 0, 1) := by decide +kernel
theorem d_R_start_17 : decode m_R_start.2.1 17 = .ok (.putfield 153, 3) := by decide +kernel
theorem d_R_start_20 : decode m_R_start.2.1 20 = .ok (.aload_n 0, 1) := by decide +kernel
theorem d_R_start_21 : decode m_R_start.2.1 21 = .ok (.iconst 0, 1) := by decide +kernel
theorem d_R_start_22 : decode m_R_start.2.1 22 = .ok (.putfield 156, 3) := by decide +kernel
theorem d_R_start_25 : decode m_R_start.2.1 25 = .ok (.aload_n 0, 1) := by decide +kernel
theorem d_R_start_26 : decode m_R_start.2.1 26 = .ok (.iconst 0, 1) := by decide +kernel
theorem d_R_start_27 : decode m_R_start.2.1 27 = .ok (.putfield 163, 3) := by decide +kernel
theorem d_R_start_30 : decode m_R_start.2.1 30 = .ok (.aload_n 0, 1) := by decide +kernel
theorem d_R_start_31 : decode m_R_start.2.1 31 = .ok (.iconst 0, 1) := by decide +kernel
theorem d_R_start_32 : decode m_R_start.2.1 32 = .ok (.putfield 166, 3) := by decide +kernel
theorem d_R_start_35 : decode m_R_start.2.1 35 = .ok (.aload_n 0, 1) := by decide +kernel
theorem d_R_start_36 : decode m_R_start.2.1 36 = .ok (.iconst 0, 1) := by decide +kernel
theorem d_R_start_37 : decode m_R_start.2.1 37 = .ok (.putfield 169, 3) := by decide +kernel
theorem d_R_start_40 : decode m_R_start.2.1 40 = .ok (.aload_n 0, 1) := by decide +kernel
theorem d_R_start_41 : decode m_R_start.2.1 41 = .ok (.iconst 0, 1) := by decide +kernel
theorem d_R_start_42 : decode m_R_start.2.1 42 = .ok (.putfield 172, 3) := by decide +kernel
theorem d_R_start_45 : decode m_R_start.2.1 45 = .ok (.aload_n 0, 1) := by decide +kernel
theorem d_R_start_46 : decode m_R_start.2.1 46 = .ok (.iconst (-1), 1) := by decide +kernel
theorem d_R_start_47 : decode m_R_start.2.1 47 = .ok (.putfield 134, 3) := by decide +kernel
theorem d_R_start_50 : decode m_R_start.2.1 50 = .ok (.iconst 0, 1) := by decide +kernel
theorem d_R_start_51 : decode m_R_start.2.1 51 = .ok (.istore_n 3, 1) := by decide +kernel
theorem d_R_start_52 : decode m_R_start.2.1 52 = .ok (.iload_n 3, 1) := by decide +kernel
theorem d_R_start_53 : decode m_R_start.2.1 53 = .ok (.iconst 4, 1) := by decide +kernel
theorem d_R_start_54 : decode m_R_start.2.1 54 = .ok (.if_icmp .ge 37, 3) := by decide +kernel
theorem d_R_start_57 : decode m_R_start.2.1 57 = .ok (.aload_n 0, 1) := by decide +kernel
theorem d_R_start_58 : decode m_R_start.2.1 58 = .ok (.getfield 119, 3) := by decide +kernel
theorem d_R_start_61 : decode m_R_start.2.1 61 = .ok (.iload_n 3, 1) := by decide +kernel
theorem d_R_start_62 : decode m_R_start.2.1 62 = .ok (.iconst 0, 1) := by decide +kernel
theorem d_R_start_63 : decode m_R_start.2.1 63 = .ok (.iastore, 1) := by decide +kernel
theorem d_R_start_64 : decode m_R_start.2.1 64 = .ok (.aload_n 0, 1) := by decide +kernel
theorem d_R_start_65 : decode m_R_start.2.1 65 = .ok (.getfield 122, 3) := by decide +kernel
theorem d_R_start_68 : decode m_R_start.2.1 68 = .ok (.iload_n 3, 1) := by decide +kernel
theorem d_R_start_69 : decode m_R_start.2.1 69 = .ok (.iconst 0, 1) := by decide +kernel
theorem d_R_start_70 : decode m_R_start.2.1 70 = .ok (.iastore, 1) := by decide +kernel
theorem d_R_start_71 : decode m_R_start.2.1 71 = .ok (.aload_n 0, 1) := by decide +kernel
theorem d_R_start_72 : decode m_R_start.2.1 72 = .ok (.getfield 131, 3) := by decide +kernel
theorem d_R_start_75 : decode m_R_start.2.1 75 = .ok (.iload_n 3, 1) := by decide +kernel
theorem d_R_start_76 : decode m_R_start.2.1 76 = .ok (.iconst 0, 1) := by decide +kernel
theorem d_R_start_77 : decode m_R_start.2.1 77 = .ok (.bastore, 1) := by decide +kernel
theorem d_R_start_78 : decode m_R_start.2.1 78 = .ok (.aload_n 0, 1) := by decide +kernel
theorem d_R_start_79 : decode m_R_start.2.1 79 = .ok (.getfield 125, 3) := by decide +kernel
theorem d_R_start_82 : decode m_R_start.2.1 82 = .ok (.iload_n 3, 1) := by decide +kernel
theorem d_R_start_83 : decode m_R_start.2.1 83 = .ok (.iconst 1, 1) := by decide +kernel
theorem d_R_start_84 : decode m_R_start.2.1 84 = .ok (.iastore, 1) := by decide +kernel
theorem d_R_start_85 : decode m_R_start.2.1 85 = .ok (.iinc 3 1, 3) := by decide +kernel
theorem d_R_start_88 : decode m_R_start.2.1 88 = .ok (.goto (-36), 3) := by decide +kernel
theorem d_R_start_91 : decode m_R_start.2.1 91 = .ok (.aload_n 0, 1) := by decide +kernel
theorem d_R_start_92 : decode m_R_start.2.1 92 = .ok (.iload_n 1, 1) := by decide +kernel
theorem d_R_start_93 : decode m_R_start.2.1 93 = .ok (.iload_n 2, 1) := by decide +kernel
theorem d_R_start_94 : decode m_R_start.2.1 94 = .ok (.iconst (-1), 1) := by decide +kernel
theorem d_R_start_95 : decode m_R_start.2.1 95 = .ok (.invokevirtual 175, 3) := by decide +kernel
theorem d_R_start_98 : decode m_R_start.2.1 98 = .ok (.pop, 1) := by decide +kernel
theorem d_R_start_99 : decode m_R_start.2.1 99 = .ok (.iconst 1, 1) := by decide +kernel
theorem d_R_start_100 : decode m_R_start.2.1 100 = .ok (.ireturn, 1) := by decide +kernel
theorem d_R_give_0 : decode m_R_give.2.1 0 = .ok (.aload_n 0, 1) := by decide +kernel
theorem d_R_give_1 : decode m_R_give.2.1 1 = .ok (.getfield 41, 3) := by decide +kernel
theorem d_R_give_4 : decode m_R_give.2.1 4 = .ok (.iload_n 1, 1) := by decide +kernel
theorem d_R_give_5 : decode m_R_give.2.1 5 = .ok (.iconst (-1), 1) := by decide +kernel
theorem d_R_give_6 : decode m_R_give.2.1 6 = .ok (.iastore, 1) := by decide +kernel
theorem d_R_give_7 : decode m_R_give.2.1 7 = .ok (.aload_n 0, 1) := by decide +kernel
theorem d_R_give_8 : decode m_R_give.2.1 8 = .ok (.getfield 50, 3) := by decide +kernel
theorem d_R_give_11 : decode m_R_give.2.1 11 = .ok (.iload_n 1, 1) := by decide +kernel
theorem d_R_give_12 : decode m_R_give.2.1 12 = .ok (.iconst 0, 1) := by decide +kernel
theorem d_R_give_13 : decode m_R_give.2.1 13 = .ok (.bastore, 1) := by decide +kernel
theorem d_R_give_14 : decode m_R_give.2.1 14 = .ok (.aload_n 0, 1) := by decide +kernel
theorem d_R_give_15 : decode m_R_give.2.1 15 = .ok (.getfield 47, 3) := by decide +kernel
theorem d_R_give_18 : decode m_R_give.2.1 18 = .ok (.iload_n 1, 1) := by decide +kernel
theorem d_R_give_19 : decode m_R_give.2.1 19 = .ok (.iload_n 2, 1) := by decide +kernel
theorem d_R_give_20 : decode m_R_give.2.1 20 = .ok (.iastore, 1) := by decide +kernel
theorem d_R_give_21 : decode m_R_give.2.1 21 = .ok (.return_, 1) := by decide +kernel
theorem d_R_single_0 : decode m_R_single.2.1 0 = .ok (.aload_n 0, 1) := by decide +kernel
theorem d_R_single_1 : decode m_R_single.2.1 1 = .ok (.getfield 107, 3) := by decide +kernel
theorem d_R_single_4 : decode m_R_single.2.1 4 = .ok (.iload_n 1, 1) := by decide +kernel
theorem d_R_single_5 : decode m_R_single.2.1 5 = .ok (.iconst 1, 1) := by decide +kernel
theorem d_R_single_6 : decode m_R_single.2.1 6 = .ok (.iastore, 1) := by decide +kernel
theorem d_R_single_7 : decode m_R_single.2.1 7 = .ok (.aload_n 0, 1) := by decide +kernel
theorem d_R_single_8 : decode m_R_single.2.1 8 = .ok (.getfield 110, 3) := by decide +kernel
theorem d_R_single_11 : decode m_R_single.2.1 11 = .ok (.bipush 9, 2) := by decide +kernel
theorem d_R_single_13 : decode m_R_single.2.1 13 = .ok (.iload_n 1, 1) := by decide +kernel
theorem d_R_single_14 : decode m_R_single.2.1 14 = .ok (.imul, 1) := by decide +kernel
theorem d_R_single_15 : decode m_R_single.2.1 15 = .ok (.iload_n 2, 1) := by decide +kernel
theorem d_R_single_16 : decode m_R_single.2.1 16 = .ok (.iastore, 1) := by decide +kernel
theorem d_R_single_17 : decode m_R_single.2.1 17 = .ok (.aload_n 0, 1) := by decide +kernel
theorem d_R_single_18 : decode m_R_single.2.1 18 = .ok (.getfield 113, 3) := by decide +kernel
theorem d_R_single_21 : decode m_R_single.2.1 21 = .ok (.bipush 9, 2) := by decide +kernel
theorem d_R_single_23 : decode m_R_single.2.1 23 = .ok (.iload_n 1, 1) := by decide +kernel
theorem d_R_single_24 : decode m_R_single.2.1 24 = .ok (.imul, 1) := by decide +kernel
theorem d_R_single_25 : decode m_R_single.2.1 25 = .ok (.iload_n 3, 1) := by decide +kernel
theorem d_R_single_26 : decode m_R_single.2.1 26 = .ok (.iastore, 1) := by decide +kernel
theorem d_R_single_27 : decode m_R_single.2.1 27 = .ok (.return_, 1) := by decide +kernel
theorem d_R_fail_0 : decode m_R_fail.2.1 0 = .ok (.aload_n 0, 1) := by decide +kernel
theorem d_R_fail_1 : decode m_R_fail.2.1 1 = .ok (.getfield 41, 3) := by decide +kernel
theorem d_R_fail_4 : decode m_R_fail.2.1 4 = .ok (.iload_n 1, 1) := by decide +kernel
theorem d_R_fail_5 : decode m_R_fail.2.1 5 = .ok (.iconst (-1), 1) := by decide +kernel
theorem d_R_fail_6 : decode m_R_fail.2.1 6 = .ok (.iastore, 1) := by decide +kernel
theorem d_R_fail_7 : decode m_R_fail.2.1 7 = .ok (.aload_n 0, 1) := by decide +kernel
theorem d_R_fail_8 : decode m_R_fail.2.1 8 = .ok (.getfield 50, 3) := by decide +kernel
theorem d_R_fail_11 : decode m_R_fail.2.1 11 = .ok (.iload_n 1, 1) := by decide +kernel
theorem d_R_fail_12 : decode m_R_fail.2.1 12 = .ok (.iconst 1, 1) := by decide +kernel
theorem d_R_fail_13 : decode m_R_fail.2.1 13 = .ok (.bastore, 1) := by decide +kernel
theorem d_R_fail_14 : decode m_R_fail.2.1 14 = .ok (.aload_n 0, 1) := by decide +kernel
theorem d_R_fail_15 : decode m_R_fail.2.1 15 = .ok (.iload_n 1, 1) := by decide +kernel
theorem d_R_fail_16 : decode m_R_fail.2.1 16 = .ok (.iload_n 2, 1) := by decide +kernel
theorem d_R_fail_17 : decode m_R_fail.2.1 17 = .ok (.iload_n 3, 1) := by decide +kernel
theorem d_R_fail_18 : decode m_R_fail.2.1 18 = .ok (.invokevirtual 179, 3) := by decide +kernel
theorem d_R_fail_21 : decode m_R_fail.2.1 21 = .ok (.return_, 1) := by decide +kernel
theorem d_R_copy_0 : decode m_R_copy.2.1 0 = .ok (.aload_n 0, 1) := by decide +kernel
theorem d_R_copy_1 : decode m_R_copy.2.1 1 = .ok (.getfield 107, 3) := by decide +kernel
theorem d_R_copy_4 : decode m_R_copy.2.1 4 = .ok (.iload_n 2, 1) := by decide +kernel
theorem d_R_copy_5 : decode m_R_copy.2.1 5 = .ok (.aload_n 0, 1) := by decide +kernel
theorem d_R_copy_6 : decode m_R_copy.2.1 6 = .ok (.getfield 107, 3) := by decide +kernel
theorem d_R_copy_9 : decode m_R_copy.2.1 9 = .ok (.iload_n 1, 1) := by decide +kernel
theorem d_R_copy_10 : decode m_R_copy.2.1 10 = .ok (.iaload, 1) := by decide +kernel
theorem d_R_copy_11 : decode m_R_copy.2.1 11 = .ok (.iastore, 1) := by decide +kernel
theorem d_R_copy_12 : decode m_R_copy.2.1 12 = .ok (.iconst 0, 1) := by decide +kernel
theorem d_R_copy_13 : decode m_R_copy.2.1 13 = .ok (.istore_n 3, 1) := by decide +kernel
theorem d_R_copy_14 : decode m_R_copy.2.1 14 = .ok (.iload_n 3, 1) := by decide +kernel
theorem d_R_copy_15 : decode m_R_copy.2.1 15 = .ok (.bipush 9, 2) := by decide +kernel
theorem d_R_copy_17 : decode m_R_copy.2.1 17 = .ok (.if_icmp .ge 53, 3) := by decide +kernel
theorem d_R_copy_20 : decode m_R_copy.2.1 20 = .ok (.aload_n 0, 1) := by decide +kernel
theorem d_R_copy_21 : decode m_R_copy.2.1 21 = .ok (.getfield 110, 3) := by decide +kernel
theorem d_R_copy_24 : decode m_R_copy.2.1 24 = .ok (.bipush 9, 2) := by decide +kernel
theorem d_R_copy_26 : decode m_R_copy.2.1 26 = .ok (.iload_n 2, 1) := by decide +kernel
theorem d_R_copy_27 : decode m_R_copy.2.1 27 = .ok (.imul, 1) := by decide +kernel
theorem d_R_copy_28 : decode m_R_copy.2.1 28 = .ok (.iload_n 3, 1) := by decide +kernel
theorem d_R_copy_29 : decode m_R_copy.2.1 29 = .ok (.iadd, 1) := by decide +kernel
theorem d_R_copy_30 : decode m_R_copy.2.1 30 = .ok (.aload_n 0, 1) := by decide +kernel
theorem d_R_copy_31 : decode m_R_copy.2.1 31 = .ok (.getfield 110, 3) := by decide +kernel
theorem d_R_copy_34 : decode m_R_copy.2.1 34 = .ok (.bipush 9, 2) := by decide +kernel
theorem d_R_copy_36 : decode m_R_copy.2.1 36 = .ok (.iload_n 1, 1) := by decide +kernel
theorem d_R_copy_37 : decode m_R_copy.2.1 37 = .ok (.imul, 1) := by decide +kernel
theorem d_R_copy_38 : decode m_R_copy.2.1 38 = .ok (.iload_n 3, 1) := by decide +kernel
theorem d_R_copy_39 : decode m_R_copy.2.1 39 = .ok (.iadd, 1) := by decide +kernel
theorem d_R_copy_40 : decode m_R_copy.2.1 40 = .ok (.iaload, 1) := by decide +kernel
theorem d_R_copy_41 : decode m_R_copy.2.1 41 = .ok (.iastore, 1) := by decide +kernel
theorem d_R_copy_42 : decode m_R_copy.2.1 42 = .ok (.aload_n 0, 1) := by decide +kernel
theorem d_R_copy_43 : decode m_R_copy.2.1 43 = .ok (.getfield 113, 3) := by decide +kernel
theorem d_R_copy_46 : decode m_R_copy.2.1 46 = .ok (.bipush 9, 2) := by decide +kernel
theorem d_R_copy_48 : decode m_R_copy.2.1 48 = .ok (.iload_n 2, 1) := by decide +kernel
theorem d_R_copy_49 : decode m_R_copy.2.1 49 = .ok (.imul, 1) := by decide +kernel
theorem d_R_copy_50 : decode m_R_copy.2.1 50 = .ok (.iload_n 3, 1) := by decide +kernel
theorem d_R_copy_51 : decode m_R_copy.2.1 51 = .ok (.iadd, 1) := by decide +kernel
theorem d_R_copy_52 : decode m_R_copy.2.1 52 = .ok (.aload_n 0, 1) := by decide +kernel
theorem d_R_copy_53 : decode m_R_copy.2.1 53 = .ok (.getfield 113, 3) := by decide +kernel
theorem d_R_copy_56 : decode m_R_copy.2.1 56 = .ok (.bipush 9, 2) := by decide +kernel
theorem d_R_copy_58 : decode m_R_copy.2.1 58 = .ok (.iload_n 1, 1) := by decide +kernel
theorem d_R_copy_59 : decode m_R_copy.2.1 59 = .ok (.imul, 1) := by decide +kernel
theorem d_R_copy_60 : decode m_R_copy.2.1 60 = .ok (.iload_n 3, 1) := by decide +kernel
theorem d_R_copy_61 : decode m_R_copy.2.1 61 = .ok (.iadd, 1) := by decide +kernel
theorem d_R_copy_62 : decode m_R_copy.2.1 62 = .ok (.iaload, 1) := by decide +kernel
theorem d_R_copy_63 : decode m_R_copy.2.1 63 = .ok (.iastore, 1) := by decide +kernel
theorem d_R_copy_64 : decode m_R_copy.2.1 64 = .ok (.iinc 3 1, 3) := by decide +kernel
theorem d_R_copy_67 : decode m_R_copy.2.1 67 = .ok (.goto (-53), 3) := by decide +kernel
theorem d_R_copy_70 : decode m_R_copy.2.1 70 = .ok (.return_, 1) := by decide +kernel
theorem d_R_join_0 : decode m_R_join.2.1 0 = .ok (.aload_n 0, 1) := by decide +kernel
theorem d_R_join_1 : decode m_R_join.2.1 1 = .ok (.getfield 107, 3) := by decide +kernel
theorem d_R_join_4 : decode m_R_join.2.1 4 = .ok (.iload_n 1, 1) := by decide +kernel
theorem d_R_join_5 : decode m_R_join.2.1 5 = .ok (.iaload, 1) := by decide +kernel
theorem d_R_join_6 : decode m_R_join.2.1 6 = .ok (.istore 4, 2) := by decide +kernel
theorem d_R_join_8 : decode m_R_join.2.1 8 = .ok (.aload_n 0, 1) := by decide +kernel
theorem d_R_join_9 : decode m_R_join.2.1 9 = .ok (.getfield 107, 3) := by decide +kernel
theorem d_R_join_12 : decode m_R_join.2.1 12 = .ok (.iload_n 2, 1) := by decide +kernel
theorem d_R_join_13 : decode m_R_join.2.1 13 = .ok (.iaload, 1) := by decide +kernel
theorem d_R_join_14 : decode m_R_join.2.1 14 = .ok (.istore 5, 2) := by decide +kernel
theorem d_R_join_16 : decode m_R_join.2.1 16 = .ok (.iload 4, 2) := by decide +kernel
theorem d_R_join_18 : decode m_R_join.2.1 18 = .ok (.iload 5, 2) := by decide +kernel
theorem d_R_join_20 : decode m_R_join.2.1 20 = .ok (.iadd, 1) := by decide +kernel
theorem d_R_join_21 : decode m_R_join.2.1 21 = .ok (.iconst 1, 1) := by decide +kernel
theorem d_R_join_22 : decode m_R_join.2.1 22 = .ok (.iadd, 1) := by decide +kernel
theorem d_R_join_23 : decode m_R_join.2.1 23 = .ok (.bipush 9, 2) := by decide +kernel
theorem d_R_join_25 : decode m_R_join.2.1 25 = .ok (.if_icmp .le 4, 3) := by decide +kernel
theorem d_R_join_28 : decode m_R_join.2.1 28 = .ok (.return_, 1) := by decide +kernel
theorem d_R_join_29 : decode m_R_join.2.1 29 = .ok (.iload 4, 2) := by decide +kernel
theorem d_R_join_31 : decode m_R_join.2.1 31 = .ok (.istore 6, 2) := by decide +kernel
theorem d_R_join_33 : decode m_R_join.2.1 33 = .ok (.iload 6, 2) := by decide +kernel
theorem d_R_join_35 : decode m_R_join.2.1 35 = .ok (.ifCond .le 61, 3) := by decide +kernel
theorem d_R_join_38 : decode m_R_join.2.1 38 = .ok (.aload_n 0, 1) := by decide +kernel
theorem d_R_join_39 : decode m_R_join.2.1 39 = .ok (.getfield 110, 3) := by decide +kernel
theorem d_R_join_42 : decode m_R_join.2.1 42 = .ok (.bipush 9, 2) := by decide +kernel
theorem d_R_join_44 : decode m_R_join.2.1 44 = .ok (.iload_n 1, 1) := by decide +kernel
theorem d_R_join_45 : decode m_R_join.2.1 45 = .ok (.imul, 1) := by decide +kernel
theorem d_R_join_46 : decode m_R_join.2.1 46 = .ok (.iload 6, 2) := by decide +kernel
theorem d_R_join_48 : decode m_R_join.2.1 48 = .ok (.iadd, 1) := by decide +kernel
theorem d_R_join_49 : decode m_R_join.2.1 49 = .ok (.aload_n 0, 1) := by decide +kernel
theorem d_R_join_50 : decode m_R_join.2.1 50 = .ok (.getfield 110, 3) := by decide +kernel
theorem d_R_join_53 : decode m_R_join.2.1 53 = .ok (.bipush 9, 2) := by decide +kernel
theorem d_R_join_55 : decode m_R_join.2.1 55 = .ok (.iload_n 1, 1) := by decide +kernel
theorem d_R_join_56 : decode m_R_join.2.1 56 = .ok (.imul, 1) := by decide +kernel
theorem d_R_join_57 : decode m_R_join.2.1 57 = .ok (.iload 6, 2) := by decide +kernel
theorem d_R_join_59 : decode m_R_join.2.1 59 = .ok (.iadd, 1) := by decide +kernel
theorem d_R_join_60 : decode m_R_join.2.1 60 = .ok (.iconst 1, 1) := by decide +kernel
theorem d_R_join_61 : decode m_R_join.2.1 61 = .ok (.isub, 1) := by decide +kernel
theorem d_R_join_62 : decode m_R_join.2.1 62 = .ok (.iaload, 1) := by decide +kernel
theorem d_R_join_63 : decode m_R_join.2.1 63 = .ok (.iastore, 1) := by decide +kernel
theorem d_R_join_64 : decode m_R_join.2.1 64 = .ok (.aload_n 0, 1) := by decide +kernel
theorem d_R_join_65 : decode m_R_join.2.1 65 = .ok (.getfield 113, 3) := by decide +kernel
theorem d_R_join_68 : decode m_R_join.2.1 68 = .ok (.bipush 9, 2) := by decide +kernel
theorem d_R_join_70 : decode m_R_join.2.1 70 = .ok (.iload_n 1, 1) := by decide +kernel
theorem d_R_join_71 : decode m_R_join.2.1 71 = .ok (.imul, 1) := by decide +kernel
theorem d_R_join_72 : decode m_R_join.2.1 72 = .ok (.iload 6, 2) := by decide +kernel
theorem d_R_join_74 : decode m_R_join.2.1 74 = .ok (.iadd, 1) := by decide +kernel
theorem d_R_join_75 : decode m_R_join.2.1 75 = .ok (.aload_n 0, 1) := by decide +kernel
theorem d_R_join_76 : decode m_R_join.2.1 76 = .ok (.getfield 113, 3) := by decide +kernel
theorem d_R_join_79 : decode m_R_join.2.1 79 = .ok (.bipush 9, 2) := by decide +kernel
theorem d_R_join_81 : decode m_R_join.2.1 81 = .ok (.iload_n 1, 1) := by decide +kernel
theorem d_R_join_82 : decode m_R_join.2.1 82 = .ok (.imul, 1) := by decide +kernel
theorem d_R_join_83 : decode m_R_join.2.1 83 = .ok (.iload 6, 2) := by decide +kernel
theorem d_R_join_85 : decode m_R_join.2.1 85 = .ok (.iadd, 1) := by decide +kernel
theorem d_R_join_86 : decode m_R_join.2.1 86 = .ok (.iconst 1, 1) := by decide +kernel
theorem d_R_join_87 : decode m_R_join.2.1 87 = .ok (.isub, 1) := by decide +kernel
theorem d_R_join_88 : decode m_R_join.2.1 88 = .ok (.iaload, 1) := by decide +kernel
theorem d_R_join_89 : decode m_R_join.2.1 89 = .ok (.iastore, 1) := by decide +kernel
theorem d_R_join_90 : decode m_R_join.2.1 90 = .ok (.iinc 6 (-1), 3) := by decide +kernel
theorem d_R_join_93 : decode m_R_join.2.1 93 = .ok (.goto (-60), 3) := by decide +kernel
theorem d_R_join_96 : decode m_R_join.2.1 96 = .ok (.aload_n 0, 1) := by decide +kernel
theorem d_R_join_97 : decode m_R_join.2.1 97 = .ok (.getfield 110, 3) := by decide +kernel
theorem d_R_join_100 : decode m_R_join.2.1 100 = .ok (.bipush 9, 2) := by decide +kernel
theorem d_R_join_102 : decode m_R_join.2.1 102 = .ok (.iload_n 1, 1) := by decide +kernel
theorem d_R_join_103 : decode m_R_join.2.1 103 = .ok (.imul, 1) := by decide +kernel
theorem d_R_join_104 : decode m_R_join.2.1 104 = .ok (.iload_n 3, 1) := by decide +kernel
theorem d_R_join_105 : decode m_R_join.2.1 105 = .ok (.iastore, 1) := by decide +kernel
theorem d_R_join_106 : decode m_R_join.2.1 106 = .ok (.aload_n 0, 1) := by decide +kernel
theorem d_R_join_107 : decode m_R_join.2.1 107 = .ok (.getfield 113, 3) := by decide +kernel
theorem d_R_join_110 : decode m_R_join.2.1 110 = .ok (.bipush 9, 2) := by decide +kernel
theorem d_R_join_112 : decode m_R_join.2.1 112 = .ok (.iload_n 1, 1) := by decide +kernel
theorem d_R_join_113 : decode m_R_join.2.1 113 = .ok (.imul, 1) := by decide +kernel
theorem d_R_join_114 : decode m_R_join.2.1 114 = .ok (.iconst 0, 1) := by decide +kernel
theorem d_R_join_115 : decode m_R_join.2.1 115 = .ok (.iastore, 1) := by decide +kernel
theorem d_R_join_116 : decode m_R_join.2.1 116 = .ok (.iconst 0, 1) := by decide +kernel
theorem d_R_join_117 : decode m_R_join.2.1 117 = .ok (.istore 6, 2) := by decide +kernel
theorem d_R_join_119 : decode m_R_join.2.1 119 = .ok (.iload 6, 2) := by decide +kernel
theorem d_R_join_121 : decode m_R_join.2.1 121 = .ok (.iload 5, 2) := by decide +kernel
theorem d_R_join_123 : decode m_R_join.2.1 123 = .ok (.if_icmp .ge 67, 3) := by decide +kernel
theorem d_R_join_126 : decode m_R_join.2.1 126 = .ok (.aload_n 0, 1) := by decide +kernel
theorem d_R_join_127 : decode m_R_join.2.1 127 = .ok (.getfield 110, 3) := by decide +kernel
theorem d_R_join_130 : decode m_R_join.2.1 130 = .ok (.bipush 9, 2) := by decide +kernel
theorem d_R_join_132 : decode m_R_join.2.1 132 = .ok (.iload_n 1, 1) := by decide +kernel
theorem d_R_join_133 : decode m_R_join.2.1 133 = .ok (.imul, 1) := by decide +kernel
theorem d_R_join_134 : decode m_R_join.2.1 134 = .ok (.iload 4, 2) := by decide +kernel
theorem d_R_join_136 : decode m_R_join.2.1 136 = .ok (.iadd, 1) := by decide +kernel
theorem d_R_join_137 : decode m_R_join.2.1 137 = .ok (.iconst 1, 1) := by decide +kernel
theorem d_R_join_138 : decode m_R_join.2.1 138 = .ok (.iadd, 1) := by decide +kernel
theorem d_R_join_139 : decode m_R_join.2.1 139 = .ok (.iload 6, 2) := by decide +kernel
theorem d_R_join_141 : decode m_R_join.2.1 141 = .ok (.iadd, 1) := by decide +kernel
theorem d_R_join_142 : decode m_R_join.2.1 142 = .ok (.aload_n 0, 1) := by decide +kernel
theorem d_R_join_143 : decode m_R_join.2.1 143 = .ok (.getfield 110, 3) := by decide +kernel
theorem d_R_join_146 : decode m_R_join.2.1 146 = .ok (.bipush 9, 2) := by decide +kernel
theorem d_R_join_148 : decode m_R_join.2.1 148 = .ok (.iload_n 2, 1) := by decide +kernel
theorem d_R_join_149 : decode m_R_join.2.1 149 = .ok (.imul, 1) := by decide +kernel
theorem d_R_join_150 : decode m_R_join.2.1 150 = .ok (.iload 6, 2) := by decide +kernel
theorem d_R_join_152 : decode m_R_join.2.1 152 = .ok (.iadd, 1) := by decide +kernel
theorem d_R_join_153 : decode m_R_join.2.1 153 = .ok (.iaload, 1) := by decide +kernel
theorem d_R_join_154 : decode m_R_join.2.1 154 = .ok (.iastore, 1) := by decide +kernel
theorem d_R_join_155 : decode m_R_join.2.1 155 = .ok (.aload_n 0, 1) := by decide +kernel
theorem d_R_join_156 : decode m_R_join.2.1 156 = .ok (.getfield 113, 3) := by decide +kernel
theorem d_R_join_159 : decode m_R_join.2.1 159 = .ok (.bipush 9, 2) := by decide +kernel
theorem d_R_join_161 : decode m_R_join.2.1 161 = .ok (.iload_n 1, 1) := by decide +kernel
theorem d_R_join_162 : decode m_R_join.2.1 162 = .ok (.imul, 1) := by decide +kernel
theorem d_R_join_163 : decode m_R_join.2.1 163 = .ok (.iload 4, 2) := by decide +kernel
theorem d_R_join_165 : decode m_R_join.2.1 165 = .ok (.iadd, 1) := by decide +kernel
theorem d_R_join_166 : decode m_R_join.2.1 166 = .ok (.iconst 1, 1) := by decide +kernel
theorem d_R_join_167 : decode m_R_join.2.1 167 = .ok (.iadd, 1) := by decide +kernel
theorem d_R_join_168 : decode m_R_join.2.1 168 = .ok (.iload 6, 2) := by decide +kernel
theorem d_R_join_170 : decode m_R_join.2.1 170 = .ok (.iadd, 1) := by decide +kernel
theorem d_R_join_171 : decode m_R_join.2.1 171 = .ok (.aload_n 0, 1) := by decide +kernel
theorem d_R_join_172 : decode m_R_join.2.1 172 = .ok (.getfield 113, 3) := by decide +kernel
theorem d_R_join_175 : decode m_R_join.2.1 175 = .ok (.bipush 9, 2) := by decide +kernel
theorem d_R_join_177 : decode m_R_join.2.1 177 = .ok (.iload_n 2, 1) := by decide +kernel
theorem d_R_join_178 : decode m_R_join.2.1 178 = .ok (.imul, 1) := by decide +kernel
theorem d_R_join_179 : decode m_R_join.2.1 179 = .ok (.iload 6, 2) := by decide +kernel
theorem d_R_join_181 : decode m_R_join.2.1 181 = .ok (.iadd, 1) := by decide +kernel
theorem d_R_join_182 : decode m_R_join.2.1 182 = .ok (.iaload, 1) := by decide +kernel
theorem d_R_join_183 : decode m_R_join.2.1 183 = .ok (.iastore, 1) := by decide +kernel
theorem d_R_join_184 : decode m_R_join.2.1 184 = .ok (.iinc 6 1, 3) := by decide +kernel
theorem d_R_join_187 : decode m_R_join.2.1 187 = .ok (.goto (-68), 3) := by decide +kernel
theorem d_R_join_190 : decode m_R_join.2.1 190 = .ok (.aload_n 0, 1) := by decide +kernel
theorem d_R_join_191 : decode m_R_join.2.1 191 = .ok (.getfield 107, 3) := by decide +kernel
theorem d_R_join_194 : decode m_R_join.2.1 194 = .ok (.iload_n 1, 1) := by decide +kernel
theorem d_R_join_195 : decode m_R_join.2.1 195 = .ok (.iload 4, 2) := by decide +kernel
theorem d_R_join_197 : decode m_R_join.2.1 197 = .ok (.iload 5, 2) := by decide +kernel
theorem d_R_join_199 : decode m_R_join.2.1 199 = .ok (.iadd, 1) := by decide +kernel
theorem d_R_join_200 : decode m_R_join.2.1 200 = .ok (.iconst 1, 1) := by decide +kernel
theorem d_R_join_201 : decode m_R_join.2.1 201 = .ok (.iadd, 1) := by decide +kernel
theorem d_R_join_202 : decode m_R_join.2.1 202 = .ok (.iastore, 1) := by decide +kernel
theorem d_R_join_203 : decode m_R_join.2.1 203 = .ok (.return_, 1) := by decide +kernel
theorem d_R_wake_0 : decode m_R_wake.2.1 0 = .ok (.aload_n 0, 1) := by decide +kernel
theorem d_R_wake_1 : decode m_R_wake.2.1 1 = .ok (.getfield 22, 3) := by decide +kernel
theorem d_R_wake_4 : decode m_R_wake.2.1 4 = .ok (.iload_n 1, 1) := by decide +kernel
theorem d_R_wake_5 : decode m_R_wake.2.1 5 = .ok (.iconst 0, 1) := by decide +kernel
theorem d_R_wake_6 : decode m_R_wake.2.1 6 = .ok (.iastore, 1) := by decide +kernel
theorem d_R_wake_7 : decode m_R_wake.2.1 7 = .ok (.aload_n 0, 1) := by decide +kernel
theorem d_R_wake_8 : decode m_R_wake.2.1 8 = .ok (.getfield 53, 3) := by decide +kernel
theorem d_R_wake_11 : decode m_R_wake.2.1 11 = .ok (.iload_n 1, 1) := by decide +kernel
theorem d_R_wake_12 : decode m_R_wake.2.1 12 = .ok (.iconst 0, 1) := by decide +kernel
theorem d_R_wake_13 : decode m_R_wake.2.1 13 = .ok (.iastore, 1) := by decide +kernel
theorem d_R_wake_14 : decode m_R_wake.2.1 14 = .ok (.aload_n 0, 1) := by decide +kernel
theorem d_R_wake_15 : decode m_R_wake.2.1 15 = .ok (.getfield 116, 3) := by decide +kernel
theorem d_R_wake_18 : decode m_R_wake.2.1 18 = .ok (.aload_n 0, 1) := by decide +kernel
theorem d_R_wake_19 : decode m_R_wake.2.1 19 = .ok (.dup, 1) := by decide +kernel
theorem d_R_wake_20 : decode m_R_wake.2.1 20 = .ok (.getfield 156, 3) := by decide +kernel
theorem d_R_wake_23 : decode m_R_wake.2.1 23 = .ok (.dup_x1, 1) := by decide +kernel
theorem d_R_wake_24 : decode m_R_wake.2.1 24 = .ok (.iconst 1, 1) := by decide +kernel
theorem d_R_wake_25 : decode m_R_wake.2.1 25 = .ok (.iadd, 1) := by decide +kernel
theorem d_R_wake_26 : decode m_R_wake.2.1 26 = .ok (.putfield 156, 3) := by decide +kernel
theorem d_R_wake_29 : decode m_R_wake.2.1 29 = .ok (.iload_n 1, 1) := by decide +kernel
theorem d_R_wake_30 : decode m_R_wake.2.1 30 = .ok (.iastore, 1) := by decide +kernel
theorem d_R_wake_31 : decode m_R_wake.2.1 31 = .ok (.return_, 1) := by decide +kernel
theorem d_R_rest_0 : decode m_R_rest.2.1 0 = .ok (.aload_n 0, 1) := by decide +kernel
theorem d_R_rest_1 : decode m_R_rest.2.1 1 = .ok (.getfield 22, 3) := by decide +kernel
theorem d_R_rest_4 : decode m_R_rest.2.1 4 = .ok (.iload_n 1, 1) := by decide +kernel
theorem d_R_rest_5 : decode m_R_rest.2.1 5 = .ok (.iconst 1, 1) := by decide +kernel
theorem d_R_rest_6 : decode m_R_rest.2.1 6 = .ok (.iastore, 1) := by decide +kernel
theorem d_R_rest_7 : decode m_R_rest.2.1 7 = .ok (.aload_n 0, 1) := by decide +kernel
theorem d_R_rest_8 : decode m_R_rest.2.1 8 = .ok (.getfield 53, 3) := by decide +kernel
theorem d_R_rest_11 : decode m_R_rest.2.1 11 = .ok (.iload_n 1, 1) := by decide +kernel
theorem d_R_rest_12 : decode m_R_rest.2.1 12 = .ok (.iload_n 2, 1) := by decide +kernel
theorem d_R_rest_13 : decode m_R_rest.2.1 13 = .ok (.iastore, 1) := by decide +kernel
theorem d_R_rest_14 : decode m_R_rest.2.1 14 = .ok (.aload_n 0, 1) := by decide +kernel
theorem d_R_rest_15 : decode m_R_rest.2.1 15 = .ok (.getfield 56, 3) := by decide +kernel
theorem d_R_rest_18 : decode m_R_rest.2.1 18 = .ok (.iload_n 1, 1) := by decide +kernel
theorem d_R_rest_19 : decode m_R_rest.2.1 19 = .ok (.iload_n 3, 1) := by decide +kernel
theorem d_R_rest_20 : decode m_R_rest.2.1 20 = .ok (.iastore, 1) := by decide +kernel
theorem d_R_rest_21 : decode m_R_rest.2.1 21 = .ok (.aload_n 0, 1) := by decide +kernel
theorem d_R_rest_22 : decode m_R_rest.2.1 22 = .ok (.getfield 59, 3) := by decide +kernel
theorem d_R_rest_25 : decode m_R_rest.2.1 25 = .ok (.iload_n 1, 1) := by decide +kernel
theorem d_R_rest_26 : decode m_R_rest.2.1 26 = .ok (.iload 4, 2) := by decide +kernel
theorem d_R_rest_28 : decode m_R_rest.2.1 28 = .ok (.iastore, 1) := by decide +kernel
theorem d_R_rest_29 : decode m_R_rest.2.1 29 = .ok (.aload_n 0, 1) := by decide +kernel
theorem d_R_rest_30 : decode m_R_rest.2.1 30 = .ok (.getfield 62, 3) := by decide +kernel
theorem d_R_rest_33 : decode m_R_rest.2.1 33 = .ok (.iload_n 1, 1) := by decide +kernel
theorem d_R_rest_34 : decode m_R_rest.2.1 34 = .ok (.aload_n 0, 1) := by decide +kernel
theorem d_R_rest_35 : decode m_R_rest.2.1 35 = .ok (.dup, 1) := by decide +kernel
theorem d_R_rest_36 : decode m_R_rest.2.1 36 = .ok (.getfield 183, 3) := by decide +kernel
theorem d_R_rest_39 : decode m_R_rest.2.1 39 = .ok (.dup_x1, 1) := by decide +kernel
theorem d_R_rest_40 : decode m_R_rest.2.1 40 = .ok (.iconst 1, 1) := by decide +kernel
theorem d_R_rest_41 : decode m_R_rest.2.1 41 = .ok (.iadd, 1) := by decide +kernel
theorem d_R_rest_42 : decode m_R_rest.2.1 42 = .ok (.putfield 183, 3) := by decide +kernel
theorem d_R_rest_45 : decode m_R_rest.2.1 45 = .ok (.iastore, 1) := by decide +kernel
theorem d_R_rest_46 : decode m_R_rest.2.1 46 = .ok (.return_, 1) := by decide +kernel
theorem d_R_strike_0 : decode m_R_strike.2.1 0 = .ok (.aload_n 0, 1) := by decide +kernel
theorem d_R_strike_1 : decode m_R_strike.2.1 1 = .ok (.getfield 22, 3) := by decide +kernel
theorem d_R_strike_4 : decode m_R_strike.2.1 4 = .ok (.iload_n 1, 1) := by decide +kernel
theorem d_R_strike_5 : decode m_R_strike.2.1 5 = .ok (.iaload, 1) := by decide +kernel
theorem d_R_strike_6 : decode m_R_strike.2.1 6 = .ok (.iconst 2, 1) := by decide +kernel
theorem d_R_strike_7 : decode m_R_strike.2.1 7 = .ok (.if_icmp .eq 12, 3) := by decide +kernel
theorem d_R_strike_10 : decode m_R_strike.2.1 10 = .ok (.aload_n 0, 1) := by decide +kernel
theorem d_R_strike_11 : decode m_R_strike.2.1 11 = .ok (.getfield 25, 3) := by decide +kernel
theorem d_R_strike_14 : decode m_R_strike.2.1 14 = .ok (.iload_n 1, 1) := by decide +kernel
theorem d_R_strike_15 : decode m_R_strike.2.1 15 = .ok (.iaload, 1) := by decide +kernel
theorem d_R_strike_16 : decode m_R_strike.2.1 16 = .ok (.ifCond .le 4, 3) := by decide +kernel
theorem d_R_strike_19 : decode m_R_strike.2.1 19 = .ok (.return_, 1) := by decide +kernel
theorem d_R_strike_20 : decode m_R_strike.2.1 20 = .ok (.aload_n 0, 1) := by decide +kernel
theorem d_R_strike_21 : decode m_R_strike.2.1 21 = .ok (.getfield 25, 3) := by decide +kernel
theorem d_R_strike_24 : decode m_R_strike.2.1 24 = .ok (.iload_n 1, 1) := by decide +kernel
theorem d_R_strike_25 : decode m_R_strike.2.1 25 = .ok (.iconst 1, 1) := by decide +kernel
theorem d_R_strike_26 : decode m_R_strike.2.1 26 = .ok (.iastore, 1) := by decide +kernel
theorem d_R_strike_27 : decode m_R_strike.2.1 27 = .ok (.aload_n 0, 1) := by decide +kernel
theorem d_R_strike_28 : decode m_R_strike.2.1 28 = .ok (.getfield 28, 3) := by decide +kernel
theorem d_R_strike_31 : decode m_R_strike.2.1 31 = .ok (.iload_n 1, 1) := by decide +kernel
theorem d_R_strike_32 : decode m_R_strike.2.1 32 = .ok (.iload_n 2, 1) := by decide +kernel
theorem d_R_strike_33 : decode m_R_strike.2.1 33 = .ok (.iastore, 1) := by decide +kernel
theorem d_R_strike_34 : decode m_R_strike.2.1 34 = .ok (.aload_n 0, 1) := by decide +kernel
theorem d_R_strike_35 : decode m_R_strike.2.1 35 = .ok (.getfield 22, 3) := by decide +kernel
theorem d_R_strike_38 : decode m_R_strike.2.1 38 = .ok (.iload_n 1, 1) := by decide +kernel
theorem d_R_strike_39 : decode m_R_strike.2.1 39 = .ok (.iaload, 1) := by decide +kernel
theorem d_R_strike_40 : decode m_R_strike.2.1 40 = .ok (.iconst 1, 1) := by decide +kernel
theorem d_R_strike_41 : decode m_R_strike.2.1 41 = .ok (.if_icmp .ne 17, 3) := by decide +kernel
theorem d_R_strike_44 : decode m_R_strike.2.1 44 = .ok (.aload_n 0, 1) := by decide +kernel
theorem d_R_strike_45 : decode m_R_strike.2.1 45 = .ok (.getfield 37, 3) := by decide +kernel
theorem d_R_strike_48 : decode m_R_strike.2.1 48 = .ok (.iload_n 1, 1) := by decide +kernel
theorem d_R_strike_49 : decode m_R_strike.2.1 49 = .ok (.baload, 1) := by decide +kernel
theorem d_R_strike_50 : decode m_R_strike.2.1 50 = .ok (.ifCond .ne 8, 3) := by decide +kernel
theorem d_R_strike_53 : decode m_R_strike.2.1 53 = .ok (.aload_n 0, 1) := by decide +kernel
theorem d_R_strike_54 : decode m_R_strike.2.1 54 = .ok (.iload_n 1, 1) := by decide +kernel
theorem d_R_strike_55 : decode m_R_strike.2.1 55 = .ok (.invokevirtual 186, 3) := by decide +kernel
theorem d_R_strike_58 : decode m_R_strike.2.1 58 = .ok (.return_, 1) := by decide +kernel
theorem d_R_interrupt_0 : decode m_R_interrupt.2.1 0 = .ok (.aload_n 0, 1) := by decide +kernel
theorem d_R_interrupt_1 : decode m_R_interrupt.2.1 1 = .ok (.getfield 159, 3) := by decide +kernel
theorem d_R_interrupt_4 : decode m_R_interrupt.2.1 4 = .ok (.ifCond .eq 27, 3) := by decide +kernel
theorem d_R_interrupt_7 : decode m_R_interrupt.2.1 7 = .ok (.iload_n 1, 1) := by decide +kernel
theorem d_R_interrupt_8 : decode m_R_interrupt.2.1 8 = .ok (.iconst 0, 1) := by decide +kernel
theorem d_R_interrupt_9 : decode m_R_interrupt.2.1 9 = .ok (.aload_n 0, 1) := by decide +kernel
theorem d_R_interrupt_10 : decode m_R_interrupt.2.1 10 = .ok (.getfield 153, 3) := by decide +kernel
theorem d_R_interrupt_13 : decode m_R_interrupt.2.1 13 = .ok (.iconst 1, 1) := by decide +kernel
theorem d_R_interrupt_14 : decode m_R_interrupt.2.1 14 = .ok (.isub, 1) := by decide +kernel
theorem d_R_interrupt_15 : decode m_R_interrupt.2.1 15 = .ok (.invokestatic 141, 3) := by decide +kernel
theorem d_R_interrupt_18 : decode m_R_interrupt.2.1 18 = .ok (.ifCond .eq 13, 3) := by decide +kernel
theorem d_R_interrupt_21 : decode m_R_interrupt.2.1 21 = .ok (.aload_n 0, 1) := by decide +kernel
theorem d_R_interrupt_22 : decode m_R_interrupt.2.1 22 = .ok (.getfield 22, 3) := by decide +kernel
theorem d_R_interrupt_25 : decode m_R_interrupt.2.1 25 = .ok (.iload_n 1, 1) := by decide +kernel
theorem d_R_interrupt_26 : decode m_R_interrupt.2.1 26 = .ok (.iaload, 1) := by decide +kernel
theorem d_R_interrupt_27 : decode m_R_interrupt.2.1 27 = .ok (.iconst 2, 1) := by decide +kernel
theorem d_R_interrupt_28 : decode m_R_interrupt.2.1 28 = .ok (.if_icmp .ne 5, 3) := by decide +kernel
theorem d_R_interrupt_31 : decode m_R_interrupt.2.1 31 = .ok (.iconst 0, 1) := by decide +kernel
theorem d_R_interrupt_32 : decode m_R_interrupt.2.1 32 = .ok (.ireturn, 1) := by decide +kernel
theorem d_R_interrupt_33 : decode m_R_interrupt.2.1 33 = .ok (.aload_n 0, 1) := by decide +kernel
theorem d_R_interrupt_34 : decode m_R_interrupt.2.1 34 = .ok (.iload_n 1, 1) := by decide +kernel
theorem d_R_interrupt_35 : decode m_R_interrupt.2.1 35 = .ok (.iconst (-1), 1) := by decide +kernel
theorem d_R_interrupt_36 : decode m_R_interrupt.2.1 36 = .ok (.invokevirtual 190, 3) := by decide +kernel
theorem d_R_interrupt_39 : decode m_R_interrupt.2.1 39 = .ok (.iconst 1, 1) := by decide +kernel
theorem d_R_interrupt_40 : decode m_R_interrupt.2.1 40 = .ok (.ireturn, 1) := by decide +kernel
theorem d_R_firstFor_0 : decode m_R_firstFor.2.1 0 = .ok (.iconst (-1), 1) := by decide +kernel
theorem d_R_firstFor_1 : decode m_R_firstFor.2.1 1 = .ok (.istore_n 3, 1) := by decide +kernel
theorem d_R_firstFor_2 : decode m_R_firstFor.2.1 2 = .ok (.iconst 0, 1) := by decide +kernel
theorem d_R_firstFor_3 : decode m_R_firstFor.2.1 3 = .ok (.istore 4, 2) := by decide +kernel
theorem d_R_firstFor_5 : decode m_R_firstFor.2.1 5 = .ok (.iload 4, 2) := by decide +kernel
theorem d_R_firstFor_7 : decode m_R_firstFor.2.1 7 = .ok (.aload_n 0, 1) := by decide +kernel
theorem d_R_firstFor_8 : decode m_R_firstFor.2.1 8 = .ok (.getfield 153, 3) := by decide +kernel
theorem d_R_firstFor_11 : decode m_R_firstFor.2.1 11 = .ok (.if_icmp .ge 65, 3) := by decide +kernel
theorem d_R_firstFor_14 : decode m_R_firstFor.2.1 14 = .ok (.aload_n 0, 1) := by decide +kernel
theorem d_R_firstFor_15 : decode m_R_firstFor.2.1 15 = .ok (.getfield 22, 3) := by decide +kernel
theorem d_R_firstFor_18 : decode m_R_firstFor.2.1 18 = .ok (.iload 4, 2) := by decide +kernel
theorem d_R_firstFor_20 : decode m_R_firstFor.2.1 20 = .ok (.iaload, 1) := by decide +kernel
theorem d_R_firstFor_21 : decode m_R_firstFor.2.1 21 = .ok (.iconst 1, 1) := by decide +kernel
theorem d_R_firstFor_22 : decode m_R_firstFor.2.1 22 = .ok (.if_icmp .ne 48, 3) := by decide +kernel
theorem d_R_firstFor_25 : decode m_R_firstFor.2.1 25 = .ok (.aload_n 0, 1) := by decide +kernel
theorem d_R_firstFor_26 : decode m_R_firstFor.2.1 26 = .ok (.getfield 53, 3) := by decide +kernel
theorem d_R_firstFor_29 : decode m_R_firstFor.2.1 29 = .ok (.iload 4, 2) := by decide +kernel
theorem d_R_firstFor_31 : decode m_R_firstFor.2.1 31 = .ok (.iaload, 1) := by decide +kernel
theorem d_R_firstFor_32 : decode m_R_firstFor.2.1 32 = .ok (.iload_n 1, 1) := by decide +kernel
theorem d_R_firstFor_33 : decode m_R_firstFor.2.1 33 = .ok (.if_icmp .ne 37, 3) := by decide +kernel
theorem d_R_firstFor_36 : decode m_R_firstFor.2.1 36 = .ok (.aload_n 0, 1) := by decide +kernel
theorem d_R_firstFor_37 : decode m_R_firstFor.2.1 37 = .ok (.getfield 56, 3) := by decide +kernel
theorem d_R_firstFor_40 : decode m_R_firstFor.2.1 40 = .ok (.iload 4, 2) := by decide +kernel
theorem d_R_firstFor_42 : decode m_R_firstFor.2.1 42 = .ok (.iaload, 1) := by decide +kernel
theorem d_R_firstFor_43 : decode m_R_firstFor.2.1 43 = .ok (.iload_n 2, 1) := by decide +kernel
theorem d_R_firstFor_44 : decode m_R_firstFor.2.1 44 = .ok (.if_icmp .ne 26, 3) := by decide +kernel
theorem d_R_firstFor_47 : decode m_R_firstFor.2.1 47 = .ok (.iload_n 3, 1) := by decide +kernel
theorem d_R_firstFor_48 : decode m_R_firstFor.2.1 48 = .ok (.ifCond .lt 19, 3) := by decide +kernel
theorem d_R_firstFor_51 : decode m_R_firstFor.2.1 51 = .ok (.aload_n 0, 1) := by decide +kernel
theorem d_R_firstFor_52 : decode m_R_firstFor.2.1 52 = .ok (.getfield 62, 3) := by decide +kernel
theorem d_R_firstFor_55 : decode m_R_firstFor.2.1 55 = .ok (.iload 4, 2) := by decide +kernel
theorem d_R_firstFor_57 : decode m_R_firstFor.2.1 57 = .ok (.iaload, 1) := by decide +kernel
theorem d_R_firstFor_58 : decode m_R_firstFor.2.1 58 = .ok (.aload_n 0, 1) := by decide +kernel
theorem d_R_firstFor_59 : decode m_R_firstFor.2.1 59 = .ok (.getfield 62, 3) := by decide +kernel
theorem d_R_firstFor_62 : decode m_R_firstFor.2.1 62 = .ok (.iload_n 3, 1) := by decide +kernel
theorem d_R_firstFor_63 : decode m_R_firstFor.2.1 63 = .ok (.iaload, 1) := by decide +kernel
theorem d_R_firstFor_64 : decode m_R_firstFor.2.1 64 = .ok (.if_icmp .ge 6, 3) := by decide +kernel
theorem d_R_firstFor_67 : decode m_R_firstFor.2.1 67 = .ok (.iload 4, 2) := by decide +kernel
theorem d_R_firstFor_69 : decode m_R_firstFor.2.1 69 = .ok (.istore_n 3, 1) := by decide +kernel
theorem d_R_firstFor_70 : decode m_R_firstFor.2.1 70 = .ok (.iinc 4 1, 3) := by decide +kernel
theorem d_R_firstFor_73 : decode m_R_firstFor.2.1 73 = .ok (.goto (-68), 3) := by decide +kernel
theorem d_R_firstFor_76 : decode m_R_firstFor.2.1 76 = .ok (.iload_n 3, 1) := by decide +kernel
theorem d_R_firstFor_77 : decode m_R_firstFor.2.1 77 = .ok (.ireturn, 1) := by decide +kernel
theorem d_R_keeps_0 : decode m_R_keeps.2.1 0 = .ok (.aload_n 0, 1) := by decide +kernel
theorem d_R_keeps_1 : decode m_R_keeps.2.1 1 = .ok (.getfield 131, 3) := by decide +kernel
theorem d_R_keeps_4 : decode m_R_keeps.2.1 4 = .ok (.iload_n 1, 1) := by decide +kernel
theorem d_R_keeps_5 : decode m_R_keeps.2.1 5 = .ok (.baload, 1) := by decide +kernel
theorem d_R_keeps_6 : decode m_R_keeps.2.1 6 = .ok (.ifCond .eq 5, 3) := by decide +kernel
theorem d_R_keeps_9 : decode m_R_keeps.2.1 9 = .ok (.iconst 0, 1) := by decide +kernel
theorem d_R_keeps_10 : decode m_R_keeps.2.1 10 = .ok (.ireturn, 1) := by decide +kernel
theorem d_R_keeps_11 : decode m_R_keeps.2.1 11 = .ok (.aload_n 0, 1) := by decide +kernel
theorem d_R_keeps_12 : decode m_R_keeps.2.1 12 = .ok (.getfield 131, 3) := by decide +kernel
theorem d_R_keeps_15 : decode m_R_keeps.2.1 15 = .ok (.iload_n 1, 1) := by decide +kernel
theorem d_R_keeps_16 : decode m_R_keeps.2.1 16 = .ok (.iconst 1, 1) := by decide +kernel
theorem d_R_keeps_17 : decode m_R_keeps.2.1 17 = .ok (.bastore, 1) := by decide +kernel
theorem d_R_keeps_18 : decode m_R_keeps.2.1 18 = .ok (.aload_n 0, 1) := by decide +kernel
theorem d_R_keeps_19 : decode m_R_keeps.2.1 19 = .ok (.getfield 122, 3) := by decide +kernel
theorem d_R_keeps_22 : decode m_R_keeps.2.1 22 = .ok (.iload_n 1, 1) := by decide +kernel
theorem d_R_keeps_23 : decode m_R_keeps.2.1 23 = .ok (.iload_n 2, 1) := by decide +kernel
theorem d_R_keeps_24 : decode m_R_keeps.2.1 24 = .ok (.iastore, 1) := by decide +kernel
theorem d_R_keeps_25 : decode m_R_keeps.2.1 25 = .ok (.aload_n 0, 1) := by decide +kernel
theorem d_R_keeps_26 : decode m_R_keeps.2.1 26 = .ok (.iconst 5, 1) := by decide +kernel
theorem d_R_keeps_27 : decode m_R_keeps.2.1 27 = .ok (.iload_n 1, 1) := by decide +kernel
theorem d_R_keeps_28 : decode m_R_keeps.2.1 28 = .ok (.invokevirtual 194, 3) := by decide +kernel
theorem d_R_keeps_31 : decode m_R_keeps.2.1 31 = .ok (.istore_n 3, 1) := by decide +kernel
theorem d_R_keeps_32 : decode m_R_keeps.2.1 32 = .ok (.iload_n 3, 1) := by decide +kernel
theorem d_R_keeps_33 : decode m_R_keeps.2.1 33 = .ok (.ifCond .lt 24, 3) := by decide +kernel
theorem d_R_keeps_36 : decode m_R_keeps.2.1 36 = .ok (.aload_n 0, 1) := by decide +kernel
theorem d_R_keeps_37 : decode m_R_keeps.2.1 37 = .ok (.iload_n 3, 1) := by decide +kernel
theorem d_R_keeps_38 : decode m_R_keeps.2.1 38 = .ok (.iload_n 2, 1) := by decide +kernel
theorem d_R_keeps_39 : decode m_R_keeps.2.1 39 = .ok (.invokevirtual 198, 3) := by decide +kernel
theorem d_R_keeps_42 : decode m_R_keeps.2.1 42 = .ok (.aload_n 0, 1) := by decide +kernel
theorem d_R_keeps_43 : decode m_R_keeps.2.1 43 = .ok (.iload_n 3, 1) := by decide +kernel
theorem d_R_keeps_44 : decode m_R_keeps.2.1 44 = .ok (.invokevirtual 186, 3) := by decide +kernel
theorem d_R_keeps_47 : decode m_R_keeps.2.1 47 = .ok (.aload_n 0, 1) := by decide +kernel
theorem d_R_keeps_48 : decode m_R_keeps.2.1 48 = .ok (.iconst 5, 1) := by decide +kernel
theorem d_R_keeps_49 : decode m_R_keeps.2.1 49 = .ok (.iload_n 1, 1) := by decide +kernel
theorem d_R_keeps_50 : decode m_R_keeps.2.1 50 = .ok (.invokevirtual 194, 3) := by decide +kernel
theorem d_R_keeps_53 : decode m_R_keeps.2.1 53 = .ok (.istore_n 3, 1) := by decide +kernel
theorem d_R_keeps_54 : decode m_R_keeps.2.1 54 = .ok (.goto (-22), 3) := by decide +kernel
theorem d_R_keeps_57 : decode m_R_keeps.2.1 57 = .ok (.iconst 1, 1) := by decide +kernel
theorem d_R_keeps_58 : decode m_R_keeps.2.1 58 = .ok (.ireturn, 1) := by decide +kernel
theorem d_R_keep_0 : decode m_R_keep.2.1 0 = .ok (.aload_n 0, 1) := by decide +kernel
theorem d_R_keep_1 : decode m_R_keep.2.1 1 = .ok (.getfield 159, 3) := by decide +kernel
theorem d_R_keep_4 : decode m_R_keep.2.1 4 = .ok (.ifCond .eq 25, 3) := by decide +kernel
theorem d_R_keep_7 : decode m_R_keep.2.1 7 = .ok (.iload_n 1, 1) := by decide +kernel
theorem d_R_keep_8 : decode m_R_keep.2.1 8 = .ok (.iconst 0, 1) := by decide +kernel
theorem d_R_keep_9 : decode m_R_keep.2.1 9 = .ok (.iconst 3, 1) := by decide +kernel
theorem d_R_keep_10 : decode m_R_keep.2.1 10 = .ok (.invokestatic 141, 3) := by decide +kernel
theorem d_R_keep_13 : decode m_R_keep.2.1 13 = .ok (.ifCond .eq 16, 3) := by decide +kernel
theorem d_R_keep_16 : decode m_R_keep.2.1 16 = .ok (.aload_n 0, 1) := by decide +kernel
theorem d_R_keep_17 : decode m_R_keep.2.1 17 = .ok (.iload_n 1, 1) := by decide +kernel
theorem d_R_keep_18 : decode m_R_keep.2.1 18 = .ok (.iload_n 2, 1) := by decide +kernel
theorem d_R_keep_19 : decode m_R_keep.2.1 19 = .ok (.invokevirtual 201, 3) := by decide +kernel
theorem d_R_keep_22 : decode m_R_keep.2.1 22 = .ok (.ifCond .eq 7, 3) := by decide +kernel
theorem d_R_keep_25 : decode m_R_keep.2.1 25 = .ok (.iconst 1, 1) := by decide +kernel
theorem d_R_keep_26 : decode m_R_keep.2.1 26 = .ok (.goto 4, 3) := by decide +kernel
theorem d_R_keep_29 : decode m_R_keep.2.1 29 = .ok (.iconst 0, 1) := by decide +kernel
theorem d_R_keep_30 : decode m_R_keep.2.1 30 = .ok (.ireturn, 1) := by decide +kernel
theorem d_R_run_0 : decode m_R_run.2.1 0 = .ok (.iload_n 1, 1) := by decide +kernel
theorem d_R_run_1 : decode m_R_run.2.1 1 = .ok (.iconst 1, 1) := by decide +kernel
theorem d_R_run_2 : decode m_R_run.2.1 2 = .ok (.bipush 20, 2) := by decide +kernel
theorem d_R_run_4 : decode m_R_run.2.1 4 = .ok (.invokestatic 141, 3) := by decide +kernel
theorem d_R_run_7 : decode m_R_run.2.1 7 = .ok (.ifCond .eq 10, 3) := by decide +kernel
theorem d_R_run_10 : decode m_R_run.2.1 10 = .ok (.aload_n 0, 1) := by decide +kernel
theorem d_R_run_11 : decode m_R_run.2.1 11 = .ok (.getfield 159, 3) := by decide +kernel
theorem d_R_run_14 : decode m_R_run.2.1 14 = .ok (.ifCond .ne 5, 3) := by decide +kernel
theorem d_R_run_17 : decode m_R_run.2.1 17 = .ok (.iconst (-1), 1) := by decide +kernel
theorem d_R_run_18 : decode m_R_run.2.1 18 = .ok (.ireturn, 1) := by decide +kernel
theorem d_R_run_19 : decode m_R_run.2.1 19 = .ok (.iconst 0, 1) := by decide +kernel
theorem d_R_run_20 : decode m_R_run.2.1 20 = .ok (.istore_n 2, 1) := by decide +kernel
theorem d_R_run_21 : decode m_R_run.2.1 21 = .ok (.iload_n 2, 1) := by decide +kernel
theorem d_R_run_22 : decode m_R_run.2.1 22 = .ok (.iload_n 1, 1) := by decide +kernel
theorem d_R_run_23 : decode m_R_run.2.1 23 = .ok (.if_icmp .ge 31, 3) := by decide +kernel
theorem d_R_run_26 : decode m_R_run.2.1 26 = .ok (.aload_n 0, 1) := by decide +kernel
theorem d_R_run_27 : decode m_R_run.2.1 27 = .ok (.getfield 134, 3) := by decide +kernel
theorem d_R_run_30 : decode m_R_run.2.1 30 = .ok (.ifCond .ge 7, 3) := by decide +kernel
theorem d_R_run_33 : decode m_R_run.2.1 33 = .ok (.aload_n 0, 1) := by decide +kernel
theorem d_R_run_34 : decode m_R_run.2.1 34 = .ok (.invokevirtual 205, 3) := by decide +kernel
theorem d_R_run_37 : decode m_R_run.2.1 37 = .ok (.aload_n 0, 1) := by decide +kernel
theorem d_R_run_38 : decode m_R_run.2.1 38 = .ok (.getfield 134, 3) := by decide +kernel
theorem d_R_run_41 : decode m_R_run.2.1 41 = .ok (.ifCond .lt 7, 3) := by decide +kernel
theorem d_R_run_44 : decode m_R_run.2.1 44 = .ok (.aload_n 0, 1) := by decide +kernel
theorem d_R_run_45 : decode m_R_run.2.1 45 = .ok (.invokevirtual 208, 3) := by decide +kernel
theorem d_R_run_48 : decode m_R_run.2.1 48 = .ok (.iinc 2 1, 3) := by decide +kernel
theorem d_R_run_51 : decode m_R_run.2.1 51 = .ok (.goto (-30), 3) := by decide +kernel
theorem d_R_run_54 : decode m_R_run.2.1 54 = .ok (.aload_n 0, 1) := by decide +kernel
theorem d_R_run_55 : decode m_R_run.2.1 55 = .ok (.invokevirtual 211, 3) := by decide +kernel
theorem d_R_run_58 : decode m_R_run.2.1 58 = .ok (.ireturn, 1) := by decide +kernel
theorem d_R_begin_0 : decode m_R_begin.2.1 0 = .ok (.aload_n 0, 1) := by decide +kernel
theorem d_R_begin_1 : decode m_R_begin.2.1 1 = .ok (.getfield 156, 3) := by decide +kernel
theorem d_R_begin_4 : decode m_R_begin.2.1 4 = .ok (.ifCond .ne 137, 3) := by decide +kernel
theorem d_R_begin_7 : decode m_R_begin.2.1 7 = .ok (.iconst (-1), 1) := by decide +kernel
theorem d_R_begin_8 : decode m_R_begin.2.1 8 = .ok (.istore_n 1, 1) := by decide +kernel
theorem d_R_begin_9 : decode m_R_begin.2.1 9 = .ok (.iconst 0, 1) := by decide +kernel
theorem d_R_begin_10 : decode m_R_begin.2.1 10 = .ok (.istore_n 2, 1) := by decide +kernel
theorem d_R_begin_11 : decode m_R_begin.2.1 11 = .ok (.iload_n 2, 1) := by decide +kernel
theorem d_R_begin_12 : decode m_R_begin.2.1 12 = .ok (.aload_n 0, 1) := by decide +kernel
theorem d_R_begin_13 : decode m_R_begin.2.1 13 = .ok (.getfield 153, 3) := by decide +kernel
theorem d_R_begin_16 : decode m_R_begin.2.1 16 = .ok (.if_icmp .ge 50, 3) := by decide +kernel
theorem d_R_begin_19 : decode m_R_begin.2.1 19 = .ok (.aload_n 0, 1) := by decide +kernel
theorem d_R_begin_20 : decode m_R_begin.2.1 20 = .ok (.getfield 22, 3) := by decide +kernel
theorem d_R_begin_23 : decode m_R_begin.2.1 23 = .ok (.iload_n 2, 1) := by decide +kernel
theorem d_R_begin_24 : decode m_R_begin.2.1 24 = .ok (.iaload, 1) := by decide +kernel
theorem d_R_begin_25 : decode m_R_begin.2.1 25 = .ok (.iconst 1, 1) := by decide +kernel
theorem d_R_begin_26 : decode m_R_begin.2.1 26 = .ok (.if_icmp .ne 34, 3) := by decide +kernel
theorem d_R_begin_29 : decode m_R_begin.2.1 29 = .ok (.aload_n 0, 1) := by decide +kernel
theorem d_R_begin_30 : decode m_R_begin.2.1 30 = .ok (.getfield 53, 3) := by decide +kernel
theorem d_R_begin_33 : decode m_R_begin.2.1 33 = .ok (.iload_n 2, 1) := by decide +kernel
theorem d_R_begin_34 : decode m_R_begin.2.1 34 = .ok (.iaload, 1) := by decide +kernel
theorem d_R_begin_35 : decode m_R_begin.2.1 35 = .ok (.iconst 4, 1) := by decide +kernel
theorem d_R_begin_36 : decode m_R_begin.2.1 36 = .ok (.if_icmp .ne 24, 3) := by decide +kernel
theorem d_R_begin_39 : decode m_R_begin.2.1 39 = .ok (.iload_n 1, 1) := by decide +kernel
theorem d_R_begin_40 : decode m_R_begin.2.1 40 = .ok (.ifCond .lt 13, 3) := by decide +kernel
theorem d_R_begin_43 : decode m_R_begin.2.1 43 = .ok (.aload_n 0, 1) := by decide +kernel
theorem d_R_begin_44 : decode m_R_begin.2.1 44 = .ok (.getfield 56, 3) := by decide +kernel
theorem d_R_begin_47 : decode m_R_begin.2.1 47 = .ok (.iload_n 2, 1) := by decide +kernel
theorem d_R_begin_48 : decode m_R_begin.2.1 48 = .ok (.iaload, 1) := by decide +kernel
theorem d_R_begin_49 : decode m_R_begin.2.1 49 = .ok (.iload_n 1, 1) := by decide +kernel
theorem d_R_begin_50 : decode m_R_begin.2.1 50 = .ok (.if_icmp .ge 10, 3) := by decide +kernel
theorem d_R_begin_53 : decode m_R_begin.2.1 53 = .ok (.aload_n 0, 1) := by decide +kernel
theorem d_R_begin_54 : decode m_R_begin.2.1 54 = .ok (.getfield 56, 3) := by decide +kernel
theorem d_R_begin_57 : decode m_R_begin.2.1 57 = .ok (.iload_n 2, 1) := by decide +kernel
theorem d_R_begin_58 : decode m_R_begin.2.1 58 = .ok (.iaload, 1) := by decide +kernel
theorem d_R_begin_59 : decode m_R_begin.2.1 59 = .ok (.istore_n 1, 1) := by decide +kernel
theorem d_R_begin_60 : decode m_R_begin.2.1 60 = .ok (.iinc 2 1, 3) := by decide +kernel
theorem d_R_begin_63 : decode m_R_begin.2.1 63 = .ok (.goto (-52), 3) := by decide +kernel
theorem d_R_begin_66 : decode m_R_begin.2.1 66 = .ok (.iload_n 1, 1) := by decide +kernel
theorem d_R_begin_67 : decode m_R_begin.2.1 67 = .ok (.ifCond .ge 4, 3) := by decide +kernel
theorem d_R_begin_70 : decode m_R_begin.2.1 70 = .ok (.return_, 1) := by decide +kernel
theorem d_R_begin_71 : decode m_R_begin.2.1 71 = .ok (.aload_n 0, 1) := by decide +kernel
theorem d_R_begin_72 : decode m_R_begin.2.1 72 = .ok (.iload_n 1, 1) := by decide +kernel
theorem d_R_begin_73 : decode m_R_begin.2.1 73 = .ok (.putfield 163, 3) := by decide +kernel
theorem d_R_begin_76 : decode m_R_begin.2.1 76 = .ok (.iconst 0, 1) := by decide +kernel
theorem d_R_begin_77 : decode m_R_begin.2.1 77 = .ok (.istore_n 2, 1) := by decide +kernel
theorem d_R_begin_78 : decode m_R_begin.2.1 78 = .ok (.iload_n 2, 1) := by decide +kernel
theorem d_R_begin_79 : decode m_R_begin.2.1 79 = .ok (.aload_n 0, 1) := by decide +kernel
theorem d_R_begin_80 : decode m_R_begin.2.1 80 = .ok (.getfield 153, 3) := by decide +kernel
theorem d_R_begin_83 : decode m_R_begin.2.1 83 = .ok (.if_icmp .ge 58, 3) := by decide +kernel
theorem d_R_begin_86 : decode m_R_begin.2.1 86 = .ok (.aload_n 0, 1) := by decide +kernel
theorem d_R_begin_87 : decode m_R_begin.2.1 87 = .ok (.getfield 22, 3) := by decide +kernel
theorem d_R_begin_90 : decode m_R_begin.2.1 90 = .ok (.iload_n 2, 1) := by decide +kernel
theorem d_R_begin_91 : decode m_R_begin.2.1 91 = .ok (.iaload, 1) := by decide +kernel
theorem d_R_begin_92 : decode m_R_begin.2.1 92 = .ok (.iconst 1, 1) := by decide +kernel
theorem d_R_begin_93 : decode m_R_begin.2.1 93 = .ok (.if_icmp .ne 42, 3) := by decide +kernel
theorem d_R_begin_96 : decode m_R_begin.2.1 96 = .ok (.aload_n 0, 1) := by decide +kernel
theorem d_R_begin_97 : decode m_R_begin.2.1 97 = .ok (.getfield 53, 3) := by decide +kernel
theorem d_R_begin_100 : decode m_R_begin.2.1 100 = .ok (.iload_n 2, 1) := by decide +kernel
theorem d_R_begin_101 : decode m_R_begin.2.1 101 = .ok (.iaload, 1) := by decide +kernel
theorem d_R_begin_102 : decode m_R_begin.2.1 102 = .ok (.iconst 4, 1) := by decide +kernel
theorem d_R_begin_103 : decode m_R_begin.2.1 103 = .ok (.if_icmp .ne 32, 3) := by decide +kernel
theorem d_R_begin_106 : decode m_R_begin.2.1 106 = .ok (.aload_n 0, 1) := by decide +kernel
theorem d_R_begin_107 : decode m_R_begin.2.1 107 = .ok (.getfield 56, 3) := by decide +kernel
theorem d_R_begin_110 : decode m_R_begin.2.1 110 = .ok (.iload_n 2, 1) := by decide +kernel
theorem d_R_begin_111 : decode m_R_begin.2.1 111 = .ok (.iaload, 1) := by decide +kernel
theorem d_R_begin_112 : decode m_R_begin.2.1 112 = .ok (.iload_n 1, 1) := by decide +kernel
theorem d_R_begin_113 : decode m_R_begin.2.1 113 = .ok (.if_icmp .eq 6, 3) := by decide +kernel
theorem d_R_begin_116 : decode m_R_begin.2.1 116 = .ok (.goto 19, 3) := by decide +kernel
theorem d_R_begin_119 : decode m_R_begin.2.1 119 = .ok (.aload_n 0, 1) := by decide +kernel
theorem d_R_begin_120 : decode m_R_begin.2.1 120 = .ok (.iload_n 2, 1) := by decide +kernel
theorem d_R_begin_121 : decode m_R_begin.2.1 121 = .ok (.aload_n 0, 1) := by decide +kernel
theorem d_R_begin_122 : decode m_R_begin.2.1 122 = .ok (.getfield 59, 3) := by decide +kernel
theorem d_R_begin_125 : decode m_R_begin.2.1 125 = .ok (.iload_n 2, 1) := by decide +kernel
theorem d_R_begin_126 : decode m_R_begin.2.1 126 = .ok (.iaload, 1) := by decide +kernel
theorem d_R_begin_127 : decode m_R_begin.2.1 127 = .ok (.invokevirtual 198, 3) := by decide +kernel
theorem d_R_begin_130 : decode m_R_begin.2.1 130 = .ok (.aload_n 0, 1) := by decide +kernel
theorem d_R_begin_131 : decode m_R_begin.2.1 131 = .ok (.iload_n 2, 1) := by decide +kernel
theorem d_R_begin_132 : decode m_R_begin.2.1 132 = .ok (.invokevirtual 186, 3) := by decide +kernel
theorem d_R_begin_135 : decode m_R_begin.2.1 135 = .ok (.iinc 2 1, 3) := by decide +kernel
theorem d_R_begin_138 : decode m_R_begin.2.1 138 = .ok (.goto (-60), 3) := by decide +kernel
theorem d_R_begin_141 : decode m_R_begin.2.1 141 = .ok (.aload_n 0, 1) := by decide +kernel
theorem d_R_begin_142 : decode m_R_begin.2.1 142 = .ok (.aload_n 0, 1) := by decide +kernel
theorem d_R_begin_143 : decode m_R_begin.2.1 143 = .ok (.getfield 116, 3) := by decide +kernel
theorem d_R_begin_146 : decode m_R_begin.2.1 146 = .ok (.iconst 0, 1) := by decide +kernel
theorem d_R_begin_147 : decode m_R_begin.2.1 147 = .ok (.iaload, 1) := by decide +kernel
theorem d_R_begin_148 : decode m_R_begin.2.1 148 = .ok (.putfield 134, 3) := by decide +kernel
theorem d_R_begin_151 : decode m_R_begin.2.1 151 = .ok (.aload_n 0, 1) := by decide +kernel
theorem d_R_begin_152 : decode m_R_begin.2.1 152 = .ok (.dup, 1) := by decide +kernel
theorem d_R_begin_153 : decode m_R_begin.2.1 153 = .ok (.getfield 156, 3) := by decide +kernel
theorem d_R_begin_156 : decode m_R_begin.2.1 156 = .ok (.iconst 1, 1) := by decide +kernel
theorem d_R_begin_157 : decode m_R_begin.2.1 157 = .ok (.isub, 1) := by decide +kernel
theorem d_R_begin_158 : decode m_R_begin.2.1 158 = .ok (.putfield 156, 3) := by decide +kernel
theorem d_R_begin_161 : decode m_R_begin.2.1 161 = .ok (.iconst 0, 1) := by decide +kernel
theorem d_R_begin_162 : decode m_R_begin.2.1 162 = .ok (.istore_n 1, 1) := by decide +kernel
theorem d_R_begin_163 : decode m_R_begin.2.1 163 = .ok (.iload_n 1, 1) := by decide +kernel
theorem d_R_begin_164 : decode m_R_begin.2.1 164 = .ok (.aload_n 0, 1) := by decide +kernel
theorem d_R_begin_165 : decode m_R_begin.2.1 165 = .ok (.getfield 156, 3) := by decide +kernel
theorem d_R_begin_168 : decode m_R_begin.2.1 168 = .ok (.if_icmp .ge 23, 3) := by decide +kernel
theorem d_R_begin_171 : decode m_R_begin.2.1 171 = .ok (.aload_n 0, 1) := by decide +kernel
theorem d_R_begin_172 : decode m_R_begin.2.1 172 = .ok (.getfield 116, 3) := by decide +kernel
theorem d_R_begin_175 : decode m_R_begin.2.1 175 = .ok (.iload_n 1, 1) := by decide +kernel
theorem d_R_begin_176 : decode m_R_begin.2.1 176 = .ok (.aload_n 0, 1) := by decide +kernel
theorem d_R_begin_177 : decode m_R_begin.2.1 177 = .ok (.getfield 116, 3) := by decide +kernel
theorem d_R_begin_180 : decode m_R_begin.2.1 180 = .ok (.iload_n 1, 1) := by decide +kernel
theorem d_R_begin_181 : decode m_R_begin.2.1 181 = .ok (.iconst 1, 1) := by decide +kernel
theorem d_R_begin_182 : decode m_R_begin.2.1 182 = .ok (.iadd, 1) := by decide +kernel
theorem d_R_begin_183 : decode m_R_begin.2.1 183 = .ok (.iaload, 1) := by decide +kernel
theorem d_R_begin_184 : decode m_R_begin.2.1 184 = .ok (.iastore, 1) := by decide +kernel
theorem d_R_begin_185 : decode m_R_begin.2.1 185 = .ok (.iinc 1 1, 3) := by decide +kernel
theorem d_R_begin_188 : decode m_R_begin.2.1 188 = .ok (.goto (-25), 3) := by decide +kernel
theorem d_R_begin_191 : decode m_R_begin.2.1 191 = .ok (.aload_n 0, 1) := by decide +kernel
theorem d_R_begin_192 : decode m_R_begin.2.1 192 = .ok (.iconst 0, 1) := by decide +kernel
theorem d_R_begin_193 : decode m_R_begin.2.1 193 = .ok (.putfield 215, 3) := by decide +kernel
theorem d_R_begin_196 : decode m_R_begin.2.1 196 = .ok (.aload_n 0, 1) := by decide +kernel
theorem d_R_begin_197 : decode m_R_begin.2.1 197 = .ok (.dup, 1) := by decide +kernel
theorem d_R_begin_198 : decode m_R_begin.2.1 198 = .ok (.getfield 172, 3) := by decide +kernel
theorem d_R_begin_201 : decode m_R_begin.2.1 201 = .ok (.iconst 1, 1) := by decide +kernel
theorem d_R_begin_202 : decode m_R_begin.2.1 202 = .ok (.iadd, 1) := by decide +kernel
theorem d_R_begin_203 : decode m_R_begin.2.1 203 = .ok (.putfield 172, 3) := by decide +kernel
theorem d_R_begin_206 : decode m_R_begin.2.1 206 = .ok (.return_, 1) := by decide +kernel
theorem d_R_step_0 : decode m_R_step.2.1 0 = .ok (.aload_n 0, 1) := by decide +kernel
theorem d_R_step_1 : decode m_R_step.2.1 1 = .ok (.getfield 134, 3) := by decide +kernel
theorem d_R_step_4 : decode m_R_step.2.1 4 = .ok (.istore_n 1, 1) := by decide +kernel
theorem d_R_step_5 : decode m_R_step.2.1 5 = .ok (.aload_n 0, 1) := by decide +kernel
theorem d_R_step_6 : decode m_R_step.2.1 6 = .ok (.dup, 1) := by decide +kernel
theorem d_R_step_7 : decode m_R_step.2.1 7 = .ok (.getfield 166, 3) := by decide +kernel
theorem d_R_step_10 : decode m_R_step.2.1 10 = .ok (.iconst 1, 1) := by decide +kernel
theorem d_R_step_11 : decode m_R_step.2.1 11 = .ok (.iadd, 1) := by decide +kernel
theorem d_R_step_12 : decode m_R_step.2.1 12 = .ok (.putfield 166, 3) := by decide +kernel
theorem d_R_step_15 : decode m_R_step.2.1 15 = .ok (.aload_n 0, 1) := by decide +kernel
theorem d_R_step_16 : decode m_R_step.2.1 16 = .ok (.getfield 34, 3) := by decide +kernel
theorem d_R_step_19 : decode m_R_step.2.1 19 = .ok (.iload_n 1, 1) := by decide +kernel
theorem d_R_step_20 : decode m_R_step.2.1 20 = .ok (.dup2, 1) := by decide +kernel
theorem d_R_step_21 : decode m_R_step.2.1 21 = .ok (.iaload, 1) := by decide +kernel
theorem d_R_step_22 : decode m_R_step.2.1 22 = .ok (.iconst 1, 1) := by decide +kernel
theorem d_R_step_23 : decode m_R_step.2.1 23 = .ok (.iadd, 1) := by decide +kernel
theorem d_R_step_24 : decode m_R_step.2.1 24 = .ok (.iastore, 1) := by decide +kernel
theorem d_R_step_25 : decode m_R_step.2.1 25 = .ok (.aload_n 0, 1) := by decide +kernel
theorem d_R_step_26 : decode m_R_step.2.1 26 = .ok (.dup, 1) := by decide +kernel
theorem d_R_step_27 : decode m_R_step.2.1 27 = .ok (.getfield 215, 3) := by decide +kernel
theorem d_R_step_30 : decode m_R_step.2.1 30 = .ok (.iconst 1, 1) := by decide +kernel
theorem d_R_step_31 : decode m_R_step.2.1 31 = .ok (.iadd, 1) := by decide +kernel
theorem d_R_step_32 : decode m_R_step.2.1 32 = .ok (.putfield 215, 3) := by decide +kernel
theorem d_R_step_35 : decode m_R_step.2.1 35 = .ok (.aload_n 0, 1) := by decide +kernel
theorem d_R_step_36 : decode m_R_step.2.1 36 = .ok (.getfield 25, 3) := by decide +kernel
theorem d_R_step_39 : decode m_R_step.2.1 39 = .ok (.iload_n 1, 1) := by decide +kernel
theorem d_R_step_40 : decode m_R_step.2.1 40 = .ok (.iaload, 1) := by decide +kernel
theorem d_R_step_41 : decode m_R_step.2.1 41 = .ok (.iconst 1, 1) := by decide +kernel
theorem d_R_step_42 : decode m_R_step.2.1 42 = .ok (.if_icmp .ne 34, 3) := by decide +kernel
theorem d_R_step_45 : decode m_R_step.2.1 45 = .ok (.aload_n 0, 1) := by decide +kernel
theorem d_R_step_46 : decode m_R_step.2.1 46 = .ok (.getfield 37, 3) := by decide +kernel
theorem d_R_step_49 : decode m_R_step.2.1 49 = .ok (.iload_n 1, 1) := by decide +kernel
theorem d_R_step_50 : decode m_R_step.2.1 50 = .ok (.baload, 1) := by decide +kernel
theorem d_R_step_51 : decode m_R_step.2.1 51 = .ok (.ifCond .ne 25, 3) := by decide +kernel
theorem d_R_step_54 : decode m_R_step.2.1 54 = .ok (.aload_n 0, 1) := by decide +kernel
theorem d_R_step_55 : decode m_R_step.2.1 55 = .ok (.getfield 25, 3) := by decide +kernel
theorem d_R_step_58 : decode m_R_step.2.1 58 = .ok (.iload_n 1, 1) := by decide +kernel
theorem d_R_step_59 : decode m_R_step.2.1 59 = .ok (.iconst 2, 1) := by decide +kernel
theorem d_R_step_60 : decode m_R_step.2.1 60 = .ok (.iastore, 1) := by decide +kernel
theorem d_R_step_61 : decode m_R_step.2.1 61 = .ok (.aload_n 0, 1) := by decide +kernel
theorem d_R_step_62 : decode m_R_step.2.1 62 = .ok (.iload_n 1, 1) := by decide +kernel
theorem d_R_step_63 : decode m_R_step.2.1 63 = .ok (.iconst 3, 1) := by decide +kernel
theorem d_R_step_64 : decode m_R_step.2.1 64 = .ok (.aload_n 0, 1) := by decide +kernel
theorem d_R_step_65 : decode m_R_step.2.1 65 = .ok (.getfield 28, 3) := by decide +kernel
theorem d_R_step_68 : decode m_R_step.2.1 68 = .ok (.iload_n 1, 1) := by decide +kernel
theorem d_R_step_69 : decode m_R_step.2.1 69 = .ok (.iaload, 1) := by decide +kernel
theorem d_R_step_70 : decode m_R_step.2.1 70 = .ok (.invokevirtual 218, 3) := by decide +kernel
theorem d_R_step_73 : decode m_R_step.2.1 73 = .ok (.goto 67, 3) := by decide +kernel
theorem d_R_step_76 : decode m_R_step.2.1 76 = .ok (.aload_n 0, 1) := by decide +kernel
theorem d_R_step_77 : decode m_R_step.2.1 77 = .ok (.getfield 41, 3) := by decide +kernel
theorem d_R_step_80 : decode m_R_step.2.1 80 = .ok (.iload_n 1, 1) := by decide +kernel
theorem d_R_step_81 : decode m_R_step.2.1 81 = .ok (.iaload, 1) := by decide +kernel
theorem d_R_step_82 : decode m_R_step.2.1 82 = .ok (.ifCond .lt 23, 3) := by decide +kernel
theorem d_R_step_85 : decode m_R_step.2.1 85 = .ok (.aload_n 0, 1) := by decide +kernel
theorem d_R_step_86 : decode m_R_step.2.1 86 = .ok (.iload_n 1, 1) := by decide +kernel
theorem d_R_step_87 : decode m_R_step.2.1 87 = .ok (.aload_n 0, 1) := by decide +kernel
theorem d_R_step_88 : decode m_R_step.2.1 88 = .ok (.getfield 41, 3) := by decide +kernel
theorem d_R_step_91 : decode m_R_step.2.1 91 = .ok (.iload_n 1, 1) := by decide +kernel
theorem d_R_step_92 : decode m_R_step.2.1 92 = .ok (.iaload, 1) := by decide +kernel
theorem d_R_step_93 : decode m_R_step.2.1 93 = .ok (.aload_n 0, 1) := by decide +kernel
theorem d_R_step_94 : decode m_R_step.2.1 94 = .ok (.getfield 44, 3) := by decide +kernel
theorem d_R_step_97 : decode m_R_step.2.1 97 = .ok (.iload_n 1, 1) := by decide +kernel
theorem d_R_step_98 : decode m_R_step.2.1 98 = .ok (.iaload, 1) := by decide +kernel
theorem d_R_step_99 : decode m_R_step.2.1 99 = .ok (.invokevirtual 221, 3) := by decide +kernel
theorem d_R_step_102 : decode m_R_step.2.1 102 = .ok (.goto 38, 3) := by decide +kernel
theorem d_R_step_105 : decode m_R_step.2.1 105 = .ok (.aload_n 0, 1) := by decide +kernel
theorem d_R_step_106 : decode m_R_step.2.1 106 = .ok (.getfield 74, 3) := by decide +kernel
theorem d_R_step_109 : decode m_R_step.2.1 109 = .ok (.iload_n 1, 1) := by decide +kernel
theorem d_R_step_110 : decode m_R_step.2.1 110 = .ok (.iaload, 1) := by decide +kernel
theorem d_R_step_111 : decode m_R_step.2.1 111 = .ok (.ifCond .le 24, 3) := by decide +kernel
theorem d_R_step_114 : decode m_R_step.2.1 114 = .ok (.aload_n 0, 1) := by decide +kernel
theorem d_R_step_115 : decode m_R_step.2.1 115 = .ok (.iload_n 1, 1) := by decide +kernel
theorem d_R_step_116 : decode m_R_step.2.1 116 = .ok (.bipush 16, 2) := by decide +kernel
theorem d_R_step_118 : decode m_R_step.2.1 118 = .ok (.iload_n 1, 1) := by decide +kernel
theorem d_R_step_119 : decode m_R_step.2.1 119 = .ok (.imul, 1) := by decide +kernel
theorem d_R_step_120 : decode m_R_step.2.1 120 = .ok (.aload_n 0, 1) := by decide +kernel
theorem d_R_step_121 : decode m_R_step.2.1 121 = .ok (.getfield 74, 3) := by decide +kernel
theorem d_R_step_124 : decode m_R_step.2.1 124 = .ok (.iload_n 1, 1) := by decide +kernel
theorem d_R_step_125 : decode m_R_step.2.1 125 = .ok (.iaload, 1) := by decide +kernel
theorem d_R_step_126 : decode m_R_step.2.1 126 = .ok (.iadd, 1) := by decide +kernel
theorem d_R_step_127 : decode m_R_step.2.1 127 = .ok (.iconst 1, 1) := by decide +kernel
theorem d_R_step_128 : decode m_R_step.2.1 128 = .ok (.isub, 1) := by decide +kernel
theorem d_R_step_129 : decode m_R_step.2.1 129 = .ok (.invokevirtual 224, 3) := by decide +kernel
theorem d_R_step_132 : decode m_R_step.2.1 132 = .ok (.goto 8, 3) := by decide +kernel
theorem d_R_step_135 : decode m_R_step.2.1 135 = .ok (.aload_n 0, 1) := by decide +kernel
theorem d_R_step_136 : decode m_R_step.2.1 136 = .ok (.iload_n 1, 1) := by decide +kernel
theorem d_R_step_137 : decode m_R_step.2.1 137 = .ok (.invokevirtual 227, 3) := by decide +kernel
theorem d_R_step_140 : decode m_R_step.2.1 140 = .ok (.aload_n 0, 1) := by decide +kernel
theorem d_R_step_141 : decode m_R_step.2.1 141 = .ok (.getfield 22, 3) := by decide +kernel
theorem d_R_step_144 : decode m_R_step.2.1 144 = .ok (.iload_n 1, 1) := by decide +kernel
theorem d_R_step_145 : decode m_R_step.2.1 145 = .ok (.iaload, 1) := by decide +kernel
theorem d_R_step_146 : decode m_R_step.2.1 146 = .ok (.ifCond .ne 12, 3) := by decide +kernel
theorem d_R_step_149 : decode m_R_step.2.1 149 = .ok (.aload_n 0, 1) := by decide +kernel
theorem d_R_step_150 : decode m_R_step.2.1 150 = .ok (.getfield 215, 3) := by decide +kernel
theorem d_R_step_153 : decode m_R_step.2.1 153 = .ok (.iconst 5, 1) := by decide +kernel
theorem d_R_step_154 : decode m_R_step.2.1 154 = .ok (.if_icmp .ge 4, 3) := by decide +kernel
theorem d_R_step_157 : decode m_R_step.2.1 157 = .ok (.return_, 1) := by decide +kernel
theorem d_R_step_158 : decode m_R_step.2.1 158 = .ok (.aload_n 0, 1) := by decide +kernel
theorem d_R_step_159 : decode m_R_step.2.1 159 = .ok (.iconst (-1), 1) := by decide +kernel
theorem d_R_step_160 : decode m_R_step.2.1 160 = .ok (.putfield 134, 3) := by decide +kernel
theorem d_R_step_163 : decode m_R_step.2.1 163 = .ok (.aload_n 0, 1) := by decide +kernel
theorem d_R_step_164 : decode m_R_step.2.1 164 = .ok (.getfield 22, 3) := by decide +kernel
theorem d_R_step_167 : decode m_R_step.2.1 167 = .ok (.iload_n 1, 1) := by decide +kernel
theorem d_R_step_168 : decode m_R_step.2.1 168 = .ok (.iaload, 1) := by decide +kernel
theorem d_R_step_169 : decode m_R_step.2.1 169 = .ok (.ifCond .ne 20, 3) := by decide +kernel
theorem d_R_step_172 : decode m_R_step.2.1 172 = .ok (.aload_n 0, 1) := by decide +kernel
theorem d_R_step_173 : decode m_R_step.2.1 173 = .ok (.getfield 116, 3) := by decide +kernel
theorem d_R_step_176 : decode m_R_step.2.1 176 = .ok (.aload_n 0, 1) := by decide +kernel
theorem d_R_step_177 : decode m_R_step.2.1 177 = .ok (.dup, 1) := by decide +kernel
theorem d_R_step_178 : decode m_R_step.2.1 178 = .ok (.getfield 156, 3) := by decide +kernel
theorem d_R_step_181 : decode m_R_step.2.1 181 = .ok (.dup_x1, 1) := by decide +kernel
theorem d_R_step_182 : decode m_R_step.2.1 182 = .ok (.iconst 1, 1) := by decide +kernel
theorem d_R_step_183 : decode m_R_step.2.1 183 = .ok (.iadd, 1) := by decide +kernel
theorem d_R_step_184 : decode m_R_step.2.1 184 = .ok (.putfield 156, 3) := by decide +kernel
theorem d_R_step_187 : decode m_R_step.2.1 187 = .ok (.iload_n 1, 1) := by decide +kernel
theorem d_R_step_188 : decode m_R_step.2.1 188 = .ok (.iastore, 1) := by decide +kernel
theorem d_R_step_189 : decode m_R_step.2.1 189 = .ok (.return_, 1) := by decide +kernel
theorem d_R_frame_0 : decode m_R_frame.2.1 0 = .ok (.bipush 16, 2) := by decide +kernel
theorem d_R_frame_2 : decode m_R_frame.2.1 2 = .ok (.iload_n 1, 1) := by decide +kernel
theorem d_R_frame_3 : decode m_R_frame.2.1 3 = .ok (.imul, 1) := by decide +kernel
theorem d_R_frame_4 : decode m_R_frame.2.1 4 = .ok (.aload_n 0, 1) := by decide +kernel
theorem d_R_frame_5 : decode m_R_frame.2.1 5 = .ok (.getfield 74, 3) := by decide +kernel
theorem d_R_frame_8 : decode m_R_frame.2.1 8 = .ok (.iload_n 1, 1) := by decide +kernel
theorem d_R_frame_9 : decode m_R_frame.2.1 9 = .ok (.dup2, 1) := by decide +kernel
theorem d_R_frame_10 : decode m_R_frame.2.1 10 = .ok (.iaload, 1) := by decide +kernel
theorem d_R_frame_11 : decode m_R_frame.2.1 11 = .ok (.dup_x2, 1) := by decide +kernel
theorem d_R_frame_12 : decode m_R_frame.2.1 12 = .ok (.iconst 1, 1) := by decide +kernel
theorem d_R_frame_13 : decode m_R_frame.2.1 13 = .ok (.iadd, 1) := by decide +kernel
theorem d_R_frame_14 : decode m_R_frame.2.1 14 = .ok (.iastore, 1) := by decide +kernel
theorem d_R_frame_15 : decode m_R_frame.2.1 15 = .ok (.iadd, 1) := by decide +kernel
theorem d_R_frame_16 : decode m_R_frame.2.1 16 = .ok (.istore 4, 2) := by decide +kernel
theorem d_R_frame_18 : decode m_R_frame.2.1 18 = .ok (.aload_n 0, 1) := by decide +kernel
theorem d_R_frame_19 : decode m_R_frame.2.1 19 = .ok (.getfield 77, 3) := by decide +kernel
theorem d_R_frame_22 : decode m_R_frame.2.1 22 = .ok (.iload 4, 2) := by decide +kernel
theorem d_R_frame_24 : decode m_R_frame.2.1 24 = .ok (.aload_n 0, 1) := by decide +kernel
theorem d_R_frame_25 : decode m_R_frame.2.1 25 = .ok (.getfield 7, 3) := by decide +kernel
theorem d_R_frame_28 : decode m_R_frame.2.1 28 = .ok (.iload_n 2, 1) := by decide +kernel
theorem d_R_frame_29 : decode m_R_frame.2.1 29 = .ok (.iaload, 1) := by decide +kernel
theorem d_R_frame_30 : decode m_R_frame.2.1 30 = .ok (.iastore, 1) := by decide +kernel
theorem d_R_frame_31 : decode m_R_frame.2.1 31 = .ok (.aload_n 0, 1) := by decide +kernel
theorem d_R_frame_32 : decode m_R_frame.2.1 32 = .ok (.getfield 80, 3) := by decide +kernel
theorem d_R_frame_35 : decode m_R_frame.2.1 35 = .ok (.iload 4, 2) := by decide +kernel
theorem d_R_frame_37 : decode m_R_frame.2.1 37 = .ok (.iload_n 2, 1) := by decide +kernel
theorem d_R_frame_38 : decode m_R_frame.2.1 38 = .ok (.iastore, 1) := by decide +kernel
theorem d_R_frame_39 : decode m_R_frame.2.1 39 = .ok (.aload_n 0, 1) := by decide +kernel
theorem d_R_frame_40 : decode m_R_frame.2.1 40 = .ok (.getfield 83, 3) := by decide +kernel
theorem d_R_frame_43 : decode m_R_frame.2.1 43 = .ok (.iload 4, 2) := by decide +kernel
theorem d_R_frame_45 : decode m_R_frame.2.1 45 = .ok (.iconst 0, 1) := by decide +kernel
theorem d_R_frame_46 : decode m_R_frame.2.1 46 = .ok (.iastore, 1) := by decide +kernel
theorem d_R_frame_47 : decode m_R_frame.2.1 47 = .ok (.aload_n 0, 1) := by decide +kernel
theorem d_R_frame_48 : decode m_R_frame.2.1 48 = .ok (.getfield 86, 3) := by decide +kernel
theorem d_R_frame_51 : decode m_R_frame.2.1 51 = .ok (.iload 4, 2) := by decide +kernel
theorem d_R_frame_53 : decode m_R_frame.2.1 53 = .ok (.iload_n 3, 1) := by decide +kernel
theorem d_R_frame_54 : decode m_R_frame.2.1 54 = .ok (.iastore, 1) := by decide +kernel
theorem d_R_frame_55 : decode m_R_frame.2.1 55 = .ok (.aload_n 0, 1) := by decide +kernel
theorem d_R_frame_56 : decode m_R_frame.2.1 56 = .ok (.getfield 101, 3) := by decide +kernel
theorem d_R_frame_59 : decode m_R_frame.2.1 59 = .ok (.iload 4, 2) := by decide +kernel
theorem d_R_frame_61 : decode m_R_frame.2.1 61 = .ok (.aload_n 0, 1) := by decide +kernel
theorem d_R_frame_62 : decode m_R_frame.2.1 62 = .ok (.getfield 37, 3) := by decide +kernel
theorem d_R_frame_65 : decode m_R_frame.2.1 65 = .ok (.iload_n 1, 1) := by decide +kernel
theorem d_R_frame_66 : decode m_R_frame.2.1 66 = .ok (.baload, 1) := by decide +kernel
theorem d_R_frame_67 : decode m_R_frame.2.1 67 = .ok (.bastore, 1) := by decide +kernel
theorem d_R_frame_68 : decode m_R_frame.2.1 68 = .ok (.aload_n 0, 1) := by decide +kernel
theorem d_R_frame_69 : decode m_R_frame.2.1 69 = .ok (.getfield 92, 3) := by decide +kernel
theorem d_R_frame_72 : decode m_R_frame.2.1 72 = .ok (.iload 4, 2) := by decide +kernel
theorem d_R_frame_74 : decode m_R_frame.2.1 74 = .ok (.iconst 0, 1) := by decide +kernel
theorem d_R_frame_75 : decode m_R_frame.2.1 75 = .ok (.iastore, 1) := by decide +kernel
theorem d_R_frame_76 : decode m_R_frame.2.1 76 = .ok (.return_, 1) := by decide +kernel
theorem d_R_does_0 : decode m_R_does.2.1 0 = .ok (.aload_n 0, 1) := by decide +kernel
theorem d_R_does_1 : decode m_R_does.2.1 1 = .ok (.getfield 41, 3) := by decide +kernel
theorem d_R_does_4 : decode m_R_does.2.1 4 = .ok (.iload_n 1, 1) := by decide +kernel
theorem d_R_does_5 : decode m_R_does.2.1 5 = .ok (.iload_n 2, 1) := by decide +kernel
theorem d_R_does_6 : decode m_R_does.2.1 6 = .ok (.iastore, 1) := by decide +kernel
theorem d_R_does_7 : decode m_R_does.2.1 7 = .ok (.aload_n 0, 1) := by decide +kernel
theorem d_R_does_8 : decode m_R_does.2.1 8 = .ok (.getfield 44, 3) := by decide +kernel
theorem d_R_does_11 : decode m_R_does.2.1 11 = .ok (.iload_n 1, 1) := by decide +kernel
theorem d_R_does_12 : decode m_R_does.2.1 12 = .ok (.iload_n 3, 1) := by decide +kernel
theorem d_R_does_13 : decode m_R_does.2.1 13 = .ok (.iastore, 1) := by decide +kernel
theorem d_R_does_14 : decode m_R_does.2.1 14 = .ok (.return_, 1) := by decide +kernel
theorem d_R_act_0 : decode m_R_act.2.1 0 = .ok (.aload_n 0, 1) := by decide +kernel
theorem d_R_act_1 : decode m_R_act.2.1 1 = .ok (.getfield 7, 3) := by decide +kernel
theorem d_R_act_4 : decode m_R_act.2.1 4 = .ok (.iload_n 2, 1) := by decide +kernel
theorem d_R_act_5 : decode m_R_act.2.1 5 = .ok (.iaload, 1) := by decide +kernel
theorem d_R_act_6 : decode m_R_act.2.1 6 = .ok (.istore 4, 2) := by decide +kernel
theorem d_R_act_8 : decode m_R_act.2.1 8 = .ok (.aload_n 0, 1) := by decide +kernel
theorem d_R_act_9 : decode m_R_act.2.1 9 = .ok (.getfield 13, 3) := by decide +kernel
theorem d_R_act_12 : decode m_R_act.2.1 12 = .ok (.iload_n 2, 1) := by decide +kernel
theorem d_R_act_13 : decode m_R_act.2.1 13 = .ok (.iaload, 1) := by decide +kernel
theorem d_R_act_14 : decode m_R_act.2.1 14 = .ok (.istore 5, 2) := by decide +kernel
theorem d_R_act_16 : decode m_R_act.2.1 16 = .ok (.iload 4, 2) := by decide +kernel
theorem d_R_act_18 : decode m_R_act.2.1 18 = .ok (.iconst 4, 1) := by decide +kernel
theorem d_R_act_19 : decode m_R_act.2.1 19 = .ok (.bipush 10, 2) := by decide +kernel
theorem d_R_act_21 : decode m_R_act.2.1 21 = .ok (.invokestatic 141, 3) := by decide +kernel
theorem d_R_act_24 : decode m_R_act.2.1 24 = .ok (.ifCond .eq 137, 3) := by decide +kernel
theorem d_R_act_27 : decode m_R_act.2.1 27 = .ok (.aload_n 0, 1) := by decide +kernel
theorem d_R_act_28 : decode m_R_act.2.1 28 = .ok (.getfield 74, 3) := by decide +kernel
theorem d_R_act_31 : decode m_R_act.2.1 31 = .ok (.iload_n 1, 1) := by decide +kernel
theorem d_R_act_32 : decode m_R_act.2.1 32 = .ok (.iaload, 1) := by decide +kernel
theorem d_R_act_33 : decode m_R_act.2.1 33 = .ok (.bipush 16, 2) := by decide +kernel
theorem d_R_act_35 : decode m_R_act.2.1 35 = .ok (.if_icmp .ne 12, 3) := by decide +kernel
theorem d_R_act_38 : decode m_R_act.2.1 38 = .ok (.aload_n 0, 1) := by decide +kernel
theorem d_R_act_39 : decode m_R_act.2.1 39 = .ok (.iload_n 1, 1) := by decide +kernel
theorem d_R_act_40 : decode m_R_act.2.1 40 = .ok (.iconst 2, 1) := by decide +kernel
theorem d_R_act_41 : decode m_R_act.2.1 41 = .ok (.bipush (-4), 2) := by decide +kernel
theorem d_R_act_43 : decode m_R_act.2.1 43 = .ok (.invokevirtual 218, 3) := by decide +kernel
theorem d_R_act_46 : decode m_R_act.2.1 46 = .ok (.return_, 1) := by decide +kernel
theorem d_R_act_47 : decode m_R_act.2.1 47 = .ok (.aload_n 0, 1) := by decide +kernel
theorem d_R_act_48 : decode m_R_act.2.1 48 = .ok (.getfield 74, 3) := by decide +kernel
theorem d_R_act_51 : decode m_R_act.2.1 51 = .ok (.iload_n 1, 1) := by decide +kernel
theorem d_R_act_52 : decode m_R_act.2.1 52 = .ok (.iaload, 1) := by decide +kernel
theorem d_R_act_53 : decode m_R_act.2.1 53 = .ok (.iconst 1, 1) := by decide +kernel
theorem d_R_act_54 : decode m_R_act.2.1 54 = .ok (.isub, 1) := by decide +kernel
theorem d_R_act_55 : decode m_R_act.2.1 55 = .ok (.istore 6, 2) := by decide +kernel
theorem d_R_act_57 : decode m_R_act.2.1 57 = .ok (.iload 4, 2) := by decide +kernel
theorem d_R_act_59 : decode m_R_act.2.1 59 = .ok (.bipush 9, 2) := by decide +kernel
theorem d_R_act_61 : decode m_R_act.2.1 61 = .ok (.if_icmp .ne 31, 3) := by decide +kernel
theorem d_R_act_64 : decode m_R_act.2.1 64 = .ok (.iload 6, 2) := by decide +kernel
theorem d_R_act_66 : decode m_R_act.2.1 66 = .ok (.ifCond .lt 26, 3) := by decide +kernel
theorem d_R_act_69 : decode m_R_act.2.1 69 = .ok (.aload_n 0, 1) := by decide +kernel
theorem d_R_act_70 : decode m_R_act.2.1 70 = .ok (.getfield 77, 3) := by decide +kernel
theorem d_R_act_73 : decode m_R_act.2.1 73 = .ok (.bipush 16, 2) := by decide +kernel
theorem d_R_act_75 : decode m_R_act.2.1 75 = .ok (.iload_n 1, 1) := by decide +kernel
theorem d_R_act_76 : decode m_R_act.2.1 76 = .ok (.imul, 1) := by decide +kernel
theorem d_R_act_77 : decode m_R_act.2.1 77 = .ok (.iload 6, 2) := by decide +kernel
theorem d_R_act_79 : decode m_R_act.2.1 79 = .ok (.iadd, 1) := by decide +kernel
theorem d_R_act_80 : decode m_R_act.2.1 80 = .ok (.iaload, 1) := by decide +kernel
theorem d_R_act_81 : decode m_R_act.2.1 81 = .ok (.bipush 8, 2) := by decide +kernel
theorem d_R_act_83 : decode m_R_act.2.1 83 = .ok (.if_icmp .eq 9, 3) := by decide +kernel
theorem d_R_act_86 : decode m_R_act.2.1 86 = .ok (.iinc 6 (-1), 3) := by decide +kernel
theorem d_R_act_89 : decode m_R_act.2.1 89 = .ok (.goto (-32), 3) := by decide +kernel
theorem d_R_act_92 : decode m_R_act.2.1 92 = .ok (.aload_n 0, 1) := by decide +kernel
theorem d_R_act_93 : decode m_R_act.2.1 93 = .ok (.iload_n 1, 1) := by decide +kernel
theorem d_R_act_94 : decode m_R_act.2.1 94 = .ok (.iload_n 2, 1) := by decide +kernel
theorem d_R_act_95 : decode m_R_act.2.1 95 = .ok (.iload_n 3, 1) := by decide +kernel
theorem d_R_act_96 : decode m_R_act.2.1 96 = .ok (.invokevirtual 230, 3) := by decide +kernel
theorem d_R_act_99 : decode m_R_act.2.1 99 = .ok (.iload 4, 2) := by decide +kernel
theorem d_R_act_101 : decode m_R_act.2.1 101 = .ok (.bipush 7, 2) := by decide +kernel
theorem d_R_act_103 : decode m_R_act.2.1 103 = .ok (.if_icmp .eq 10, 3) := by decide +kernel
theorem d_R_act_106 : decode m_R_act.2.1 106 = .ok (.iload 4, 2) := by decide +kernel
theorem d_R_act_108 : decode m_R_act.2.1 108 = .ok (.bipush 8, 2) := by decide +kernel
theorem d_R_act_110 : decode m_R_act.2.1 110 = .ok (.if_icmp .ne 10, 3) := by decide +kernel
theorem d_R_act_113 : decode m_R_act.2.1 113 = .ok (.aload_n 0, 1) := by decide +kernel
theorem d_R_act_114 : decode m_R_act.2.1 114 = .ok (.getfield 37, 3) := by decide +kernel
theorem d_R_act_117 : decode m_R_act.2.1 117 = .ok (.iload_n 1, 1) := by decide +kernel
theorem d_R_act_118 : decode m_R_act.2.1 118 = .ok (.iconst 1, 1) := by decide +kernel
theorem d_R_act_119 : decode m_R_act.2.1 119 = .ok (.bastore, 1) := by decide +kernel
theorem d_R_act_120 : decode m_R_act.2.1 120 = .ok (.iload 4, 2) := by decide +kernel
theorem d_R_act_122 : decode m_R_act.2.1 122 = .ok (.bipush 9, 2) := by decide +kernel
theorem d_R_act_124 : decode m_R_act.2.1 124 = .ok (.if_icmp .ne 26, 3) := by decide +kernel
theorem d_R_act_127 : decode m_R_act.2.1 127 = .ok (.iload 6, 2) := by decide +kernel
theorem d_R_act_129 : decode m_R_act.2.1 129 = .ok (.ifCond .lt 21, 3) := by decide +kernel
theorem d_R_act_132 : decode m_R_act.2.1 132 = .ok (.aload_n 0, 1) := by decide +kernel
theorem d_R_act_133 : decode m_R_act.2.1 133 = .ok (.getfield 37, 3) := by decide +kernel
theorem d_R_act_136 : decode m_R_act.2.1 136 = .ok (.iload_n 1, 1) := by decide +kernel
theorem d_R_act_137 : decode m_R_act.2.1 137 = .ok (.aload_n 0, 1) := by decide +kernel
theorem d_R_act_138 : decode m_R_act.2.1 138 = .ok (.getfield 101, 3) := by decide +kernel
theorem d_R_act_141 : decode m_R_act.2.1 141 = .ok (.bipush 16, 2) := by decide +kernel
theorem d_R_act_143 : decode m_R_act.2.1 143 = .ok (.iload_n 1, 1) := by decide +kernel
theorem d_R_act_144 : decode m_R_act.2.1 144 = .ok (.imul, 1) := by decide +kernel
theorem d_R_act_145 : decode m_R_act.2.1 145 = .ok (.iload 6, 2) := by decide +kernel
theorem d_R_act_147 : decode m_R_act.2.1 147 = .ok (.iadd, 1) := by decide +kernel
theorem d_R_act_148 : decode m_R_act.2.1 148 = .ok (.baload, 1) := by decide +kernel
theorem d_R_act_149 : decode m_R_act.2.1 149 = .ok (.bastore, 1) := by decide +kernel
theorem d_R_act_150 : decode m_R_act.2.1 150 = .ok (.aload_n 0, 1) := by decide +kernel
theorem d_R_act_151 : decode m_R_act.2.1 151 = .ok (.iload_n 1, 1) := by decide +kernel
theorem d_R_act_152 : decode m_R_act.2.1 152 = .ok (.iload 5, 2) := by decide +kernel
theorem d_R_act_154 : decode m_R_act.2.1 154 = .ok (.iload_n 3, 1) := by decide +kernel
theorem d_R_act_155 : decode m_R_act.2.1 155 = .ok (.invokevirtual 233, 3) := by decide +kernel
theorem d_R_act_158 : decode m_R_act.2.1 158 = .ok (.goto 222, 3) := by decide +kernel
theorem d_R_act_161 : decode m_R_act.2.1 161 = .ok (.iload 4, 2) := by decide +kernel
theorem d_R_act_163 : decode m_R_act.2.1 163 = .ok (.iconst 4, 1) := by decide +kernel
theorem d_R_act_164 : decode m_R_act.2.1 164 = .ok (.if_icmp .ge 52, 3) := by decide +kernel
theorem d_R_act_167 : decode m_R_act.2.1 167 = .ok (.iload 4, 2) := by decide +kernel
theorem d_R_act_169 : decode m_R_act.2.1 169 = .ok (.iconst 2, 1) := by decide +kernel
theorem d_R_act_170 : decode m_R_act.2.1 170 = .ok (.if_icmp .ge 25, 3) := by decide +kernel
theorem d_R_act_173 : decode m_R_act.2.1 173 = .ok (.aload_n 0, 1) := by decide +kernel
theorem d_R_act_174 : decode m_R_act.2.1 174 = .ok (.iload_n 1, 1) := by decide +kernel
theorem d_R_act_175 : decode m_R_act.2.1 175 = .ok (.iload 4, 2) := by decide +kernel
theorem d_R_act_177 : decode m_R_act.2.1 177 = .ok (.ifCond .ne 8, 3) := by decide +kernel
theorem d_R_act_180 : decode m_R_act.2.1 180 = .ok (.iload 5, 2) := by decide +kernel
theorem d_R_act_182 : decode m_R_act.2.1 182 = .ok (.goto 7, 3) := by decide +kernel
theorem d_R_act_185 : decode m_R_act.2.1 185 = .ok (.iload_n 3, 1) := by decide +kernel
theorem d_R_act_186 : decode m_R_act.2.1 186 = .ok (.iload 5, 2) := by decide +kernel
theorem d_R_act_188 : decode m_R_act.2.1 188 = .ok (.iadd, 1) := by decide +kernel
theorem d_R_act_189 : decode m_R_act.2.1 189 = .ok (.invokevirtual 198, 3) := by decide +kernel
theorem d_R_act_192 : decode m_R_act.2.1 192 = .ok (.goto 188, 3) := by decide +kernel
theorem d_R_act_195 : decode m_R_act.2.1 195 = .ok (.aload_n 0, 1) := by decide +kernel
theorem d_R_act_196 : decode m_R_act.2.1 196 = .ok (.iload_n 1, 1) := by decide +kernel
theorem d_R_act_197 : decode m_R_act.2.1 197 = .ok (.iload 4, 2) := by decide +kernel
theorem d_R_act_199 : decode m_R_act.2.1 199 = .ok (.iconst 2, 1) := by decide +kernel
theorem d_R_act_200 : decode m_R_act.2.1 200 = .ok (.if_icmp .ne 7, 3) := by decide +kernel
theorem d_R_act_203 : decode m_R_act.2.1 203 = .ok (.iconst 1, 1) := by decide +kernel
theorem d_R_act_204 : decode m_R_act.2.1 204 = .ok (.goto 4, 3) := by decide +kernel
theorem d_R_act_207 : decode m_R_act.2.1 207 = .ok (.iconst 2, 1) := by decide +kernel
theorem d_R_act_208 : decode m_R_act.2.1 208 = .ok (.iload 5, 2) := by decide +kernel
theorem d_R_act_210 : decode m_R_act.2.1 210 = .ok (.invokevirtual 218, 3) := by decide +kernel
theorem d_R_act_213 : decode m_R_act.2.1 213 = .ok (.goto 167, 3) := by decide +kernel
theorem d_R_act_216 : decode m_R_act.2.1 216 = .ok (.iload 4, 2) := by decide +kernel
theorem d_R_act_218 : decode m_R_act.2.1 218 = .ok (.bipush 16, 2) := by decide +kernel
theorem d_R_act_220 : decode m_R_act.2.1 220 = .ok (.if_icmp .ge 15, 3) := by decide +kernel
theorem d_R_act_223 : decode m_R_act.2.1 223 = .ok (.aload_n 0, 1) := by decide +kernel
theorem d_R_act_224 : decode m_R_act.2.1 224 = .ok (.iload_n 1, 1) := by decide +kernel
theorem d_R_act_225 : decode m_R_act.2.1 225 = .ok (.iload 4, 2) := by decide +kernel
theorem d_R_act_227 : decode m_R_act.2.1 227 = .ok (.iload_n 2, 1) := by decide +kernel
theorem d_R_act_228 : decode m_R_act.2.1 228 = .ok (.iload_n 3, 1) := by decide +kernel
theorem d_R_act_229 : decode m_R_act.2.1 229 = .ok (.invokevirtual 236, 3) := by decide +kernel
theorem d_R_act_232 : decode m_R_act.2.1 232 = .ok (.goto 148, 3) := by decide +kernel
theorem d_R_act_235 : decode m_R_act.2.1 235 = .ok (.iload 4, 2) := by decide +kernel
theorem d_R_act_237 : decode m_R_act.2.1 237 = .ok (.bipush 19, 2) := by decide +kernel
theorem d_R_act_239 : decode m_R_act.2.1 239 = .ok (.if_icmp .ge 100, 3) := by decide +kernel
theorem d_R_act_242 : decode m_R_act.2.1 242 = .ok (.aload_n 0, 1) := by decide +kernel
theorem d_R_act_243 : decode m_R_act.2.1 243 = .ok (.iload_n 1, 1) := by decide +kernel
theorem d_R_act_244 : decode m_R_act.2.1 244 = .ok (.iload_n 3, 1) := by decide +kernel
theorem d_R_act_245 : decode m_R_act.2.1 245 = .ok (.invokevirtual 198, 3) := by decide +kernel
theorem d_R_act_248 : decode m_R_act.2.1 248 = .ok (.iload 4, 2) := by decide +kernel
theorem d_R_act_250 : decode m_R_act.2.1 250 = .ok (.bipush 16, 2) := by decide +kernel
theorem d_R_act_252 : decode m_R_act.2.1 252 = .ok (.if_icmp .ne 36, 3) := by decide +kernel
theorem d_R_act_255 : decode m_R_act.2.1 255 = .ok (.iload 5, 2) := by decide +kernel
theorem d_R_act_257 : decode m_R_act.2.1 257 = .ok (.ifCond .le 31, 3) := by decide +kernel
theorem d_R_act_260 : decode m_R_act.2.1 260 = .ok (.aload_n 0, 1) := by decide +kernel
theorem d_R_act_261 : decode m_R_act.2.1 261 = .ok (.iload_n 1, 1) := by decide +kernel
theorem d_R_act_262 : decode m_R_act.2.1 262 = .ok (.iconst 4, 1) := by decide +kernel
theorem d_R_act_263 : decode m_R_act.2.1 263 = .ok (.aload_n 0, 1) := by decide +kernel
theorem d_R_act_264 : decode m_R_act.2.1 264 = .ok (.getfield 163, 3) := by decide +kernel
theorem d_R_act_267 : decode m_R_act.2.1 267 = .ok (.iload 5, 2) := by decide +kernel
theorem d_R_act_269 : decode m_R_act.2.1 269 = .ok (.sipush 1000, 3) := by decide +kernel
theorem d_R_act_272 : decode m_R_act.2.1 272 = .ok (.if_icmp .le 9, 3) := by decide +kernel
theorem d_R_act_275 : decode m_R_act.2.1 275 = .ok (.sipush 1000, 3) := by decide +kernel
theorem d_R_act_278 : decode m_R_act.2.1 278 = .ok (.goto 5, 3) := by decide +kernel
theorem d_R_act_281 : decode m_R_act.2.1 281 = .ok (.iload 5, 2) := by decide +kernel
theorem d_R_act_283 : decode m_R_act.2.1 283 = .ok (.iadd, 1) := by decide +kernel
theorem d_R_act_284 : decode m_R_act.2.1 284 = .ok (.iload_n 3, 1) := by decide +kernel
theorem d_R_act_285 : decode m_R_act.2.1 285 = .ok (.invokevirtual 240, 3) := by decide +kernel
theorem d_R_act_288 : decode m_R_act.2.1 288 = .ok (.iload 4, 2) := by decide +kernel
theorem d_R_act_290 : decode m_R_act.2.1 290 = .ok (.bipush 17, 2) := by decide +kernel
theorem d_R_act_292 : decode m_R_act.2.1 292 = .ok (.if_icmp .ne 8, 3) := by decide +kernel
theorem d_R_act_295 : decode m_R_act.2.1 295 = .ok (.aload_n 0, 1) := by decide +kernel
theorem d_R_act_296 : decode m_R_act.2.1 296 = .ok (.iconst 5, 1) := by decide +kernel
theorem d_R_act_297 : decode m_R_act.2.1 297 = .ok (.putfield 215, 3) := by decide +kernel
theorem d_R_act_300 : decode m_R_act.2.1 300 = .ok (.iload 4, 2) := by decide +kernel
theorem d_R_act_302 : decode m_R_act.2.1 302 = .ok (.bipush 18, 2) := by decide +kernel
theorem d_R_act_304 : decode m_R_act.2.1 304 = .ok (.if_icmp .ne 76, 3) := by decide +kernel
theorem d_R_act_307 : decode m_R_act.2.1 307 = .ok (.aload_n 0, 1) := by decide +kernel
theorem d_R_act_308 : decode m_R_act.2.1 308 = .ok (.getfield 169, 3) := by decide +kernel
theorem d_R_act_311 : decode m_R_act.2.1 311 = .ok (.bipush 24, 2) := by decide +kernel
theorem d_R_act_313 : decode m_R_act.2.1 313 = .ok (.if_icmp .ge 13, 3) := by decide +kernel
theorem d_R_act_316 : decode m_R_act.2.1 316 = .ok (.aload_n 0, 1) := by decide +kernel
theorem d_R_act_317 : decode m_R_act.2.1 317 = .ok (.getfield 128, 3) := by decide +kernel
theorem d_R_act_320 : decode m_R_act.2.1 320 = .ok (.aload_n 0, 1) := by decide +kernel
theorem d_R_act_321 : decode m_R_act.2.1 321 = .ok (.getfield 169, 3) := by decide +kernel
theorem d_R_act_324 : decode m_R_act.2.1 324 = .ok (.iload_n 3, 1) := by decide +kernel
theorem d_R_act_325 : decode m_R_act.2.1 325 = .ok (.iastore, 1) := by decide +kernel
theorem d_R_act_326 : decode m_R_act.2.1 326 = .ok (.aload_n 0, 1) := by decide +kernel
theorem d_R_act_327 : decode m_R_act.2.1 327 = .ok (.dup, 1) := by decide +kernel
theorem d_R_act_328 : decode m_R_act.2.1 328 = .ok (.getfield 169, 3) := by decide +kernel
theorem d_R_act_331 : decode m_R_act.2.1 331 = .ok (.iconst 1, 1) := by decide +kernel
theorem d_R_act_332 : decode m_R_act.2.1 332 = .ok (.iadd, 1) := by decide +kernel
theorem d_R_act_333 : decode m_R_act.2.1 333 = .ok (.putfield 169, 3) := by decide +kernel
theorem d_R_act_336 : decode m_R_act.2.1 336 = .ok (.goto 44, 3) := by decide +kernel
theorem d_R_act_339 : decode m_R_act.2.1 339 = .ok (.iload 4, 2) := by decide +kernel
theorem d_R_act_341 : decode m_R_act.2.1 341 = .ok (.bipush 25, 2) := by decide +kernel
theorem d_R_act_343 : decode m_R_act.2.1 343 = .ok (.if_icmp .ne 27, 3) := by decide +kernel
theorem d_R_act_346 : decode m_R_act.2.1 346 = .ok (.aload_n 0, 1) := by decide +kernel
theorem d_R_act_347 : decode m_R_act.2.1 347 = .ok (.iload_n 1, 1) := by decide +kernel
theorem d_R_act_348 : decode m_R_act.2.1 348 = .ok (.iload_n 3, 1) := by decide +kernel
theorem d_R_act_349 : decode m_R_act.2.1 349 = .ok (.ifCond .eq 8, 3) := by decide +kernel
theorem d_R_act_352 : decode m_R_act.2.1 352 = .ok (.iload 5, 2) := by decide +kernel
theorem d_R_act_354 : decode m_R_act.2.1 354 = .ok (.goto 9, 3) := by decide +kernel
theorem d_R_act_357 : decode m_R_act.2.1 357 = .ok (.aload_n 0, 1) := by decide +kernel
theorem d_R_act_358 : decode m_R_act.2.1 358 = .ok (.getfield 16, 3) := by decide +kernel
theorem d_R_act_361 : decode m_R_act.2.1 361 = .ok (.iload_n 2, 1) := by decide +kernel
theorem d_R_act_362 : decode m_R_act.2.1 362 = .ok (.iaload, 1) := by decide +kernel
theorem d_R_act_363 : decode m_R_act.2.1 363 = .ok (.iload_n 3, 1) := by decide +kernel
theorem d_R_act_364 : decode m_R_act.2.1 364 = .ok (.invokevirtual 233, 3) := by decide +kernel
theorem d_R_act_367 : decode m_R_act.2.1 367 = .ok (.goto 13, 3) := by decide +kernel
theorem d_R_act_370 : decode m_R_act.2.1 370 = .ok (.aload_n 0, 1) := by decide +kernel
theorem d_R_act_371 : decode m_R_act.2.1 371 = .ok (.iload_n 1, 1) := by decide +kernel
theorem d_R_act_372 : decode m_R_act.2.1 372 = .ok (.iload 4, 2) := by decide +kernel
theorem d_R_act_374 : decode m_R_act.2.1 374 = .ok (.iload 5, 2) := by decide +kernel
theorem d_R_act_376 : decode m_R_act.2.1 376 = .ok (.iload_n 3, 1) := by decide +kernel
theorem d_R_act_377 : decode m_R_act.2.1 377 = .ok (.invokevirtual 243, 3) := by decide +kernel
theorem d_R_act_380 : decode m_R_act.2.1 380 = .ok (.return_, 1) := by decide +kernel
theorem d_R_others_0 : decode m_R_others.2.1 0 = .ok (.iload 4, 2) := by decide +kernel
theorem d_R_others_2 : decode m_R_others.2.1 2 = .ok (.iconst 0, 1) := by decide +kernel
theorem d_R_others_3 : decode m_R_others.2.1 3 = .ok (.aload_n 0, 1) := by decide +kernel
theorem d_R_others_4 : decode m_R_others.2.1 4 = .ok (.getfield 153, 3) := by decide +kernel
theorem d_R_others_7 : decode m_R_others.2.1 7 = .ok (.iconst 1, 1) := by decide +kernel
theorem d_R_others_8 : decode m_R_others.2.1 8 = .ok (.isub, 1) := by decide +kernel
theorem d_R_others_9 : decode m_R_others.2.1 9 = .ok (.invokestatic 141, 3) := by decide +kernel
theorem d_R_others_12 : decode m_R_others.2.1 12 = .ok (.istore 5, 2) := by decide +kernel
theorem d_R_others_14 : decode m_R_others.2.1 14 = .ok (.iload_n 2, 1) := by decide +kernel
theorem d_R_others_15 : decode m_R_others.2.1 15 = .ok (.bipush 11, 2) := by decide +kernel
theorem d_R_others_17 : decode m_R_others.2.1 17 = .ok (.if_icmp .ne 19, 3) := by decide +kernel
theorem d_R_others_20 : decode m_R_others.2.1 20 = .ok (.aload_n 0, 1) := by decide +kernel
theorem d_R_others_21 : decode m_R_others.2.1 21 = .ok (.iload_n 1, 1) := by decide +kernel
theorem d_R_others_22 : decode m_R_others.2.1 22 = .ok (.aload_n 0, 1) := by decide +kernel
theorem d_R_others_23 : decode m_R_others.2.1 23 = .ok (.getfield 13, 3) := by decide +kernel
theorem d_R_others_26 : decode m_R_others.2.1 26 = .ok (.iload_n 3, 1) := by decide +kernel
theorem d_R_others_27 : decode m_R_others.2.1 27 = .ok (.iaload, 1) := by decide +kernel
theorem d_R_others_28 : decode m_R_others.2.1 28 = .ok (.iload 4, 2) := by decide +kernel
theorem d_R_others_30 : decode m_R_others.2.1 30 = .ok (.invokevirtual 246, 3) := by decide +kernel
theorem d_R_others_33 : decode m_R_others.2.1 33 = .ok (.goto 230, 3) := by decide +kernel
theorem d_R_others_36 : decode m_R_others.2.1 36 = .ok (.iload_n 2, 1) := by decide +kernel
theorem d_R_others_37 : decode m_R_others.2.1 37 = .ok (.bipush 12, 2) := by decide +kernel
theorem d_R_others_39 : decode m_R_others.2.1 39 = .ok (.if_icmp .ne 47, 3) := by decide +kernel
theorem d_R_others_42 : decode m_R_others.2.1 42 = .ok (.aload_n 0, 1) := by decide +kernel
theorem d_R_others_43 : decode m_R_others.2.1 43 = .ok (.getfield 153, 3) := by decide +kernel
theorem d_R_others_46 : decode m_R_others.2.1 46 = .ok (.bipush 10, 2) := by decide +kernel
theorem d_R_others_48 : decode m_R_others.2.1 48 = .ok (.if_icmp .ne 13, 3) := by decide +kernel
theorem d_R_others_51 : decode m_R_others.2.1 51 = .ok (.aload_n 0, 1) := by decide +kernel
theorem d_R_others_52 : decode m_R_others.2.1 52 = .ok (.iload_n 1, 1) := by decide +kernel
theorem d_R_others_53 : decode m_R_others.2.1 53 = .ok (.iconst 2, 1) := by decide +kernel
theorem d_R_others_54 : decode m_R_others.2.1 54 = .ok (.iconst (-1), 1) := by decide +kernel
theorem d_R_others_55 : decode m_R_others.2.1 55 = .ok (.invokevirtual 218, 3) := by decide +kernel
theorem d_R_others_58 : decode m_R_others.2.1 58 = .ok (.goto 205, 3) := by decide +kernel
theorem d_R_others_61 : decode m_R_others.2.1 61 = .ok (.aload_n 0, 1) := by decide +kernel
theorem d_R_others_62 : decode m_R_others.2.1 62 = .ok (.aload_n 0, 1) := by decide +kernel
theorem d_R_others_63 : decode m_R_others.2.1 63 = .ok (.getfield 13, 3) := by decide +kernel
theorem d_R_others_66 : decode m_R_others.2.1 66 = .ok (.iload_n 3, 1) := by decide +kernel
theorem d_R_others_67 : decode m_R_others.2.1 67 = .ok (.iaload, 1) := by decide +kernel
theorem d_R_others_68 : decode m_R_others.2.1 68 = .ok (.iload 4, 2) := by decide +kernel
theorem d_R_others_70 : decode m_R_others.2.1 70 = .ok (.iload_n 1, 1) := by decide +kernel
theorem d_R_others_71 : decode m_R_others.2.1 71 = .ok (.invokevirtual 175, 3) := by decide +kernel
theorem d_R_others_74 : decode m_R_others.2.1 74 = .ok (.istore 6, 2) := by decide +kernel
theorem d_R_others_76 : decode m_R_others.2.1 76 = .ok (.aload_n 0, 1) := by decide +kernel
theorem d_R_others_77 : decode m_R_others.2.1 77 = .ok (.iload_n 1, 1) := by decide +kernel
theorem d_R_others_78 : decode m_R_others.2.1 78 = .ok (.iload 6, 2) := by decide +kernel
theorem d_R_others_80 : decode m_R_others.2.1 80 = .ok (.invokevirtual 198, 3) := by decide +kernel
theorem d_R_others_83 : decode m_R_others.2.1 83 = .ok (.goto 180, 3) := by decide +kernel
theorem d_R_others_86 : decode m_R_others.2.1 86 = .ok (.iload_n 2, 1) := by decide +kernel
theorem d_R_others_87 : decode m_R_others.2.1 87 = .ok (.bipush 15, 2) := by decide +kernel
theorem d_R_others_89 : decode m_R_others.2.1 89 = .ok (.if_icmp .ne 76, 3) := by decide +kernel
theorem d_R_others_92 : decode m_R_others.2.1 92 = .ok (.aload_n 0, 1) := by decide +kernel
theorem d_R_others_93 : decode m_R_others.2.1 93 = .ok (.getfield 153, 3) := by decide +kernel
theorem d_R_others_96 : decode m_R_others.2.1 96 = .ok (.bipush 8, 2) := by decide +kernel
theorem d_R_others_98 : decode m_R_others.2.1 98 = .ok (.if_icmp .le 11, 3) := by decide +kernel
theorem d_R_others_101 : decode m_R_others.2.1 101 = .ok (.aload_n 0, 1) := by decide +kernel
theorem d_R_others_102 : decode m_R_others.2.1 102 = .ok (.iload_n 1, 1) := by decide +kernel
theorem d_R_others_103 : decode m_R_others.2.1 103 = .ok (.iconst 2, 1) := by decide +kernel
theorem d_R_others_104 : decode m_R_others.2.1 104 = .ok (.iconst (-1), 1) := by decide +kernel
theorem d_R_others_105 : decode m_R_others.2.1 105 = .ok (.invokevirtual 218, 3) := by decide +kernel
theorem d_R_others_108 : decode m_R_others.2.1 108 = .ok (.return_, 1) := by decide +kernel
theorem d_R_others_109 : decode m_R_others.2.1 109 = .ok (.aload_n 0, 1) := by decide +kernel
theorem d_R_others_110 : decode m_R_others.2.1 110 = .ok (.getfield 65, 3) := by decide +kernel
theorem d_R_others_113 : decode m_R_others.2.1 113 = .ok (.iload_n 1, 1) := by decide +kernel
theorem d_R_others_114 : decode m_R_others.2.1 114 = .ok (.aload_n 0, 1) := by decide +kernel
theorem d_R_others_115 : decode m_R_others.2.1 115 = .ok (.aload_n 0, 1) := by decide +kernel
theorem d_R_others_116 : decode m_R_others.2.1 116 = .ok (.getfield 13, 3) := by decide +kernel
theorem d_R_others_119 : decode m_R_others.2.1 119 = .ok (.iload_n 3, 1) := by decide +kernel
theorem d_R_others_120 : decode m_R_others.2.1 120 = .ok (.iaload, 1) := by decide +kernel
theorem d_R_others_121 : decode m_R_others.2.1 121 = .ok (.iload 4, 2) := by decide +kernel
theorem d_R_others_123 : decode m_R_others.2.1 123 = .ok (.iload_n 1, 1) := by decide +kernel
theorem d_R_others_124 : decode m_R_others.2.1 124 = .ok (.invokevirtual 175, 3) := by decide +kernel
theorem d_R_others_127 : decode m_R_others.2.1 127 = .ok (.iastore, 1) := by decide +kernel
theorem d_R_others_128 : decode m_R_others.2.1 128 = .ok (.aload_n 0, 1) := by decide +kernel
theorem d_R_others_129 : decode m_R_others.2.1 129 = .ok (.getfield 68, 3) := by decide +kernel
theorem d_R_others_132 : decode m_R_others.2.1 132 = .ok (.iload_n 1, 1) := by decide +kernel
theorem d_R_others_133 : decode m_R_others.2.1 133 = .ok (.aload_n 0, 1) := by decide +kernel
theorem d_R_others_134 : decode m_R_others.2.1 134 = .ok (.aload_n 0, 1) := by decide +kernel
theorem d_R_others_135 : decode m_R_others.2.1 135 = .ok (.getfield 16, 3) := by decide +kernel
theorem d_R_others_138 : decode m_R_others.2.1 138 = .ok (.iload_n 3, 1) := by decide +kernel
theorem d_R_others_139 : decode m_R_others.2.1 139 = .ok (.iaload, 1) := by decide +kernel
theorem d_R_others_140 : decode m_R_others.2.1 140 = .ok (.iload 4, 2) := by decide +kernel
theorem d_R_others_142 : decode m_R_others.2.1 142 = .ok (.iload_n 1, 1) := by decide +kernel
theorem d_R_others_143 : decode m_R_others.2.1 143 = .ok (.invokevirtual 175, 3) := by decide +kernel
theorem d_R_others_146 : decode m_R_others.2.1 146 = .ok (.iastore, 1) := by decide +kernel
theorem d_R_others_147 : decode m_R_others.2.1 147 = .ok (.aload_n 0, 1) := by decide +kernel
theorem d_R_others_148 : decode m_R_others.2.1 148 = .ok (.getfield 71, 3) := by decide +kernel
theorem d_R_others_151 : decode m_R_others.2.1 151 = .ok (.iload_n 1, 1) := by decide +kernel
theorem d_R_others_152 : decode m_R_others.2.1 152 = .ok (.iconst (-1), 1) := by decide +kernel
theorem d_R_others_153 : decode m_R_others.2.1 153 = .ok (.iastore, 1) := by decide +kernel
theorem d_R_others_154 : decode m_R_others.2.1 154 = .ok (.aload_n 0, 1) := by decide +kernel
theorem d_R_others_155 : decode m_R_others.2.1 155 = .ok (.iload_n 1, 1) := by decide +kernel
theorem d_R_others_156 : decode m_R_others.2.1 156 = .ok (.iconst 3, 1) := by decide +kernel
theorem d_R_others_157 : decode m_R_others.2.1 157 = .ok (.iconst 0, 1) := by decide +kernel
theorem d_R_others_158 : decode m_R_others.2.1 158 = .ok (.iconst 0, 1) := by decide +kernel
theorem d_R_others_159 : decode m_R_others.2.1 159 = .ok (.invokevirtual 240, 3) := by decide +kernel
theorem d_R_others_162 : decode m_R_others.2.1 162 = .ok (.goto 101, 3) := by decide +kernel
theorem d_R_others_165 : decode m_R_others.2.1 165 = .ok (.iload 5, 2) := by decide +kernel
theorem d_R_others_167 : decode m_R_others.2.1 167 = .ok (.ifCond .ne 14, 3) := by decide +kernel
theorem d_R_others_170 : decode m_R_others.2.1 170 = .ok (.aload_n 0, 1) := by decide +kernel
theorem d_R_others_171 : decode m_R_others.2.1 171 = .ok (.iload_n 1, 1) := by decide +kernel
theorem d_R_others_172 : decode m_R_others.2.1 172 = .ok (.iconst 2, 1) := by decide +kernel
theorem d_R_others_173 : decode m_R_others.2.1 173 = .ok (.bipush (-2), 2) := by decide +kernel
theorem d_R_others_175 : decode m_R_others.2.1 175 = .ok (.invokevirtual 218, 3) := by decide +kernel
theorem d_R_others_178 : decode m_R_others.2.1 178 = .ok (.goto 85, 3) := by decide +kernel
theorem d_R_others_181 : decode m_R_others.2.1 181 = .ok (.aload_n 0, 1) := by decide +kernel
theorem d_R_others_182 : decode m_R_others.2.1 182 = .ok (.getfield 22, 3) := by decide +kernel
theorem d_R_others_185 : decode m_R_others.2.1 185 = .ok (.iload 4, 2) := by decide +kernel
theorem d_R_others_187 : decode m_R_others.2.1 187 = .ok (.iaload, 1) := by decide +kernel
theorem d_R_others_188 : decode m_R_others.2.1 188 = .ok (.iconst 2, 1) := by decide +kernel
theorem d_R_others_189 : decode m_R_others.2.1 189 = .ok (.if_icmp .ne 28, 3) := by decide +kernel
theorem d_R_others_192 : decode m_R_others.2.1 192 = .ok (.iload_n 2, 1) := by decide +kernel
theorem d_R_others_193 : decode m_R_others.2.1 193 = .ok (.bipush 13, 2) := by decide +kernel
theorem d_R_others_195 : decode m_R_others.2.1 195 = .ok (.if_icmp .ne 13, 3) := by decide +kernel
theorem d_R_others_198 : decode m_R_others.2.1 198 = .ok (.aload_n 0, 1) := by decide +kernel
theorem d_R_others_199 : decode m_R_others.2.1 199 = .ok (.iload_n 1, 1) := by decide +kernel
theorem d_R_others_200 : decode m_R_others.2.1 200 = .ok (.iload 4, 2) := by decide +kernel
theorem d_R_others_202 : decode m_R_others.2.1 202 = .ok (.invokevirtual 249, 3) := by decide +kernel
theorem d_R_others_205 : decode m_R_others.2.1 205 = .ok (.goto 58, 3) := by decide +kernel
theorem d_R_others_208 : decode m_R_others.2.1 208 = .ok (.aload_n 0, 1) := by decide +kernel
theorem d_R_others_209 : decode m_R_others.2.1 209 = .ok (.iload_n 1, 1) := by decide +kernel
theorem d_R_others_210 : decode m_R_others.2.1 210 = .ok (.iconst 0, 1) := by decide +kernel
theorem d_R_others_211 : decode m_R_others.2.1 211 = .ok (.invokevirtual 198, 3) := by decide +kernel
theorem d_R_others_214 : decode m_R_others.2.1 214 = .ok (.goto 49, 3) := by decide +kernel
theorem d_R_others_217 : decode m_R_others.2.1 217 = .ok (.iload_n 2, 1) := by decide +kernel
theorem d_R_others_218 : decode m_R_others.2.1 218 = .ok (.bipush 13, 2) := by decide +kernel
theorem d_R_others_220 : decode m_R_others.2.1 220 = .ok (.if_icmp .ne 15, 3) := by decide +kernel
theorem d_R_others_223 : decode m_R_others.2.1 223 = .ok (.aload_n 0, 1) := by decide +kernel
theorem d_R_others_224 : decode m_R_others.2.1 224 = .ok (.iload_n 1, 1) := by decide +kernel
theorem d_R_others_225 : decode m_R_others.2.1 225 = .ok (.iconst 1, 1) := by decide +kernel
theorem d_R_others_226 : decode m_R_others.2.1 226 = .ok (.iload 4, 2) := by decide +kernel
theorem d_R_others_228 : decode m_R_others.2.1 228 = .ok (.iconst 0, 1) := by decide +kernel
theorem d_R_others_229 : decode m_R_others.2.1 229 = .ok (.invokevirtual 240, 3) := by decide +kernel
theorem d_R_others_232 : decode m_R_others.2.1 232 = .ok (.goto 31, 3) := by decide +kernel
theorem d_R_others_235 : decode m_R_others.2.1 235 = .ok (.aload_n 0, 1) := by decide +kernel
theorem d_R_others_236 : decode m_R_others.2.1 236 = .ok (.iload 4, 2) := by decide +kernel
theorem d_R_others_238 : decode m_R_others.2.1 238 = .ok (.iload_n 1, 1) := by decide +kernel
theorem d_R_others_239 : decode m_R_others.2.1 239 = .ok (.invokevirtual 190, 3) := by decide +kernel
theorem d_R_others_242 : decode m_R_others.2.1 242 = .ok (.aload_n 0, 1) := by decide +kernel
theorem d_R_others_243 : decode m_R_others.2.1 243 = .ok (.iload_n 1, 1) := by decide +kernel
theorem d_R_others_244 : decode m_R_others.2.1 244 = .ok (.iconst 0, 1) := by decide +kernel
theorem d_R_others_245 : decode m_R_others.2.1 245 = .ok (.invokevirtual 198, 3) := by decide +kernel
theorem d_R_others_248 : decode m_R_others.2.1 248 = .ok (.iload 4, 2) := by decide +kernel
theorem d_R_others_250 : decode m_R_others.2.1 250 = .ok (.iload_n 1, 1) := by decide +kernel
theorem d_R_others_251 : decode m_R_others.2.1 251 = .ok (.if_icmp .eq 12, 3) := by decide +kernel
theorem d_R_others_254 : decode m_R_others.2.1 254 = .ok (.aload_n 0, 1) := by decide +kernel
theorem d_R_others_255 : decode m_R_others.2.1 255 = .ok (.iload_n 1, 1) := by decide +kernel
theorem d_R_others_256 : decode m_R_others.2.1 256 = .ok (.iconst 2, 1) := by decide +kernel
theorem d_R_others_257 : decode m_R_others.2.1 257 = .ok (.iload 4, 2) := by decide +kernel
theorem d_R_others_259 : decode m_R_others.2.1 259 = .ok (.iconst 0, 1) := by decide +kernel
theorem d_R_others_260 : decode m_R_others.2.1 260 = .ok (.invokevirtual 240, 3) := by decide +kernel
theorem d_R_others_263 : decode m_R_others.2.1 263 = .ok (.return_, 1) := by decide +kernel
theorem d_R_hand_0 : decode m_R_hand.2.1 0 = .ok (.aload_n 0, 1) := by decide +kernel
theorem d_R_hand_1 : decode m_R_hand.2.1 1 = .ok (.iload_n 1, 1) := by decide +kernel
theorem d_R_hand_2 : decode m_R_hand.2.1 2 = .ok (.aload_n 0, 1) := by decide +kernel
theorem d_R_hand_3 : decode m_R_hand.2.1 3 = .ok (.getfield 47, 3) := by decide +kernel
theorem d_R_hand_6 : decode m_R_hand.2.1 6 = .ok (.iload_n 2, 1) := by decide +kernel
theorem d_R_hand_7 : decode m_R_hand.2.1 7 = .ok (.iaload, 1) := by decide +kernel
theorem d_R_hand_8 : decode m_R_hand.2.1 8 = .ok (.invokevirtual 198, 3) := by decide +kernel
theorem d_R_hand_11 : decode m_R_hand.2.1 11 = .ok (.aload_n 0, 1) := by decide +kernel
theorem d_R_hand_12 : decode m_R_hand.2.1 12 = .ok (.getfield 50, 3) := by decide +kernel
theorem d_R_hand_15 : decode m_R_hand.2.1 15 = .ok (.iload_n 1, 1) := by decide +kernel
theorem d_R_hand_16 : decode m_R_hand.2.1 16 = .ok (.aload_n 0, 1) := by decide +kernel
theorem d_R_hand_17 : decode m_R_hand.2.1 17 = .ok (.getfield 50, 3) := by decide +kernel
theorem d_R_hand_20 : decode m_R_hand.2.1 20 = .ok (.iload_n 2, 1) := by decide +kernel
theorem d_R_hand_21 : decode m_R_hand.2.1 21 = .ok (.baload, 1) := by decide +kernel
theorem d_R_hand_22 : decode m_R_hand.2.1 22 = .ok (.bastore, 1) := by decide +kernel
theorem d_R_hand_23 : decode m_R_hand.2.1 23 = .ok (.aload_n 0, 1) := by decide +kernel
theorem d_R_hand_24 : decode m_R_hand.2.1 24 = .ok (.getfield 50, 3) := by decide +kernel
theorem d_R_hand_27 : decode m_R_hand.2.1 27 = .ok (.iload_n 1, 1) := by decide +kernel
theorem d_R_hand_28 : decode m_R_hand.2.1 28 = .ok (.baload, 1) := by decide +kernel
theorem d_R_hand_29 : decode m_R_hand.2.1 29 = .ok (.ifCond .eq 9, 3) := by decide +kernel
theorem d_R_hand_32 : decode m_R_hand.2.1 32 = .ok (.aload_n 0, 1) := by decide +kernel
theorem d_R_hand_33 : decode m_R_hand.2.1 33 = .ok (.iload_n 2, 1) := by decide +kernel
theorem d_R_hand_34 : decode m_R_hand.2.1 34 = .ok (.iload_n 1, 1) := by decide +kernel
theorem d_R_hand_35 : decode m_R_hand.2.1 35 = .ok (.invokevirtual 252, 3) := by decide +kernel
theorem d_R_hand_38 : decode m_R_hand.2.1 38 = .ok (.return_, 1) := by decide +kernel
theorem d_R_register_0 : decode m_R_register.2.1 0 = .ok (.bipush 16, 2) := by decide +kernel
theorem d_R_register_2 : decode m_R_register.2.1 2 = .ok (.iload_n 1, 1) := by decide +kernel
theorem d_R_register_3 : decode m_R_register.2.1 3 = .ok (.imul, 1) := by decide +kernel
theorem d_R_register_4 : decode m_R_register.2.1 4 = .ok (.aload_n 0, 1) := by decide +kernel
theorem d_R_register_5 : decode m_R_register.2.1 5 = .ok (.getfield 74, 3) := by decide +kernel
theorem d_R_register_8 : decode m_R_register.2.1 8 = .ok (.iload_n 1, 1) := by decide +kernel
theorem d_R_register_9 : decode m_R_register.2.1 9 = .ok (.iaload, 1) := by decide +kernel
theorem d_R_register_10 : decode m_R_register.2.1 10 = .ok (.iadd, 1) := by decide +kernel
theorem d_R_register_11 : decode m_R_register.2.1 11 = .ok (.iconst 1, 1) := by decide +kernel
theorem d_R_register_12 : decode m_R_register.2.1 12 = .ok (.isub, 1) := by decide +kernel
theorem d_R_register_13 : decode m_R_register.2.1 13 = .ok (.istore 4, 2) := by decide +kernel
theorem d_R_register_15 : decode m_R_register.2.1 15 = .ok (.iload 4, 2) := by decide +kernel
theorem d_R_register_17 : decode m_R_register.2.1 17 = .ok (.bipush 16, 2) := by decide +kernel
theorem d_R_register_19 : decode m_R_register.2.1 19 = .ok (.iload_n 1, 1) := by decide +kernel
theorem d_R_register_20 : decode m_R_register.2.1 20 = .ok (.imul, 1) := by decide +kernel
theorem d_R_register_21 : decode m_R_register.2.1 21 = .ok (.if_icmp .lt 33, 3) := by decide +kernel
theorem d_R_register_24 : decode m_R_register.2.1 24 = .ok (.aload_n 0, 1) := by decide +kernel
theorem d_R_register_25 : decode m_R_register.2.1 25 = .ok (.getfield 77, 3) := by decide +kernel
theorem d_R_register_28 : decode m_R_register.2.1 28 = .ok (.iload 4, 2) := by decide +kernel
theorem d_R_register_30 : decode m_R_register.2.1 30 = .ok (.iaload, 1) := by decide +kernel
theorem d_R_register_31 : decode m_R_register.2.1 31 = .ok (.bipush 10, 2) := by decide +kernel
theorem d_R_register_33 : decode m_R_register.2.1 33 = .ok (.if_icmp .ne 15, 3) := by decide +kernel
theorem d_R_register_36 : decode m_R_register.2.1 36 = .ok (.aload_n 0, 1) := by decide +kernel
theorem d_R_register_37 : decode m_R_register.2.1 37 = .ok (.getfield 83, 3) := by decide +kernel
theorem d_R_register_40 : decode m_R_register.2.1 40 = .ok (.iload 4, 2) := by decide +kernel
theorem d_R_register_42 : decode m_R_register.2.1 42 = .ok (.iaload, 1) := by decide +kernel
theorem d_R_register_43 : decode m_R_register.2.1 43 = .ok (.bipush 9, 2) := by decide +kernel
theorem d_R_register_45 : decode m_R_register.2.1 45 = .ok (.if_icmp .ne 9, 3) := by decide +kernel
theorem d_R_register_48 : decode m_R_register.2.1 48 = .ok (.iinc 4 (-1), 3) := by decide +kernel
theorem d_R_register_51 : decode m_R_register.2.1 51 = .ok (.goto (-36), 3) := by decide +kernel
theorem d_R_register_54 : decode m_R_register.2.1 54 = .ok (.iload 4, 2) := by decide +kernel
theorem d_R_register_56 : decode m_R_register.2.1 56 = .ok (.bipush 16, 2) := by decide +kernel
theorem d_R_register_58 : decode m_R_register.2.1 58 = .ok (.iload_n 1, 1) := by decide +kernel
theorem d_R_register_59 : decode m_R_register.2.1 59 = .ok (.imul, 1) := by decide +kernel
theorem d_R_register_60 : decode m_R_register.2.1 60 = .ok (.if_icmp .lt 14, 3) := by decide +kernel
theorem d_R_register_63 : decode m_R_register.2.1 63 = .ok (.aload_n 0, 1) := by decide +kernel
theorem d_R_register_64 : decode m_R_register.2.1 64 = .ok (.getfield 92, 3) := by decide +kernel
theorem d_R_register_67 : decode m_R_register.2.1 67 = .ok (.iload 4, 2) := by decide +kernel
theorem d_R_register_69 : decode m_R_register.2.1 69 = .ok (.iaload, 1) := by decide +kernel
theorem d_R_register_70 : decode m_R_register.2.1 70 = .ok (.iconst 4, 1) := by decide +kernel
theorem d_R_register_71 : decode m_R_register.2.1 71 = .ok (.if_icmp .ne 12, 3) := by decide +kernel
theorem d_R_register_74 : decode m_R_register.2.1 74 = .ok (.aload_n 0, 1) := by decide +kernel
theorem d_R_register_75 : decode m_R_register.2.1 75 = .ok (.iload_n 1, 1) := by decide +kernel
theorem d_R_register_76 : decode m_R_register.2.1 76 = .ok (.iconst 2, 1) := by decide +kernel
theorem d_R_register_77 : decode m_R_register.2.1 77 = .ok (.bipush (-3), 2) := by decide +kernel
theorem d_R_register_79 : decode m_R_register.2.1 79 = .ok (.invokevirtual 218, 3) := by decide +kernel
theorem d_R_register_82 : decode m_R_register.2.1 82 = .ok (.return_, 1) := by decide +kernel
theorem d_R_register_83 : decode m_R_register.2.1 83 = .ok (.aload_n 0, 1) := by decide +kernel
theorem d_R_register_84 : decode m_R_register.2.1 84 = .ok (.getfield 95, 3) := by decide +kernel
theorem d_R_register_87 : decode m_R_register.2.1 87 = .ok (.iconst 4, 1) := by decide +kernel
theorem d_R_register_88 : decode m_R_register.2.1 88 = .ok (.iload 4, 2) := by decide +kernel
theorem d_R_register_90 : decode m_R_register.2.1 90 = .ok (.imul, 1) := by decide +kernel
theorem d_R_register_91 : decode m_R_register.2.1 91 = .ok (.aload_n 0, 1) := by decide +kernel
theorem d_R_register_92 : decode m_R_register.2.1 92 = .ok (.getfield 92, 3) := by decide +kernel
theorem d_R_register_95 : decode m_R_register.2.1 95 = .ok (.iload 4, 2) := by decide +kernel
theorem d_R_register_97 : decode m_R_register.2.1 97 = .ok (.iaload, 1) := by decide +kernel
theorem d_R_register_98 : decode m_R_register.2.1 98 = .ok (.iadd, 1) := by decide +kernel
theorem d_R_register_99 : decode m_R_register.2.1 99 = .ok (.iload_n 2, 1) := by decide +kernel
theorem d_R_register_100 : decode m_R_register.2.1 100 = .ok (.iastore, 1) := by decide +kernel
theorem d_R_register_101 : decode m_R_register.2.1 101 = .ok (.aload_n 0, 1) := by decide +kernel
theorem d_R_register_102 : decode m_R_register.2.1 102 = .ok (.getfield 98, 3) := by decide +kernel
theorem d_R_register_105 : decode m_R_register.2.1 105 = .ok (.iconst 4, 1) := by decide +kernel
theorem d_R_register_106 : decode m_R_register.2.1 106 = .ok (.iload 4, 2) := by decide +kernel
theorem d_R_register_108 : decode m_R_register.2.1 108 = .ok (.imul, 1) := by decide +kernel
theorem d_R_register_109 : decode m_R_register.2.1 109 = .ok (.aload_n 0, 1) := by decide +kernel
theorem d_R_register_110 : decode m_R_register.2.1 110 = .ok (.getfield 92, 3) := by decide +kernel
theorem d_R_register_113 : decode m_R_register.2.1 113 = .ok (.iload 4, 2) := by decide +kernel
theorem d_R_register_115 : decode m_R_register.2.1 115 = .ok (.iaload, 1) := by decide +kernel
theorem d_R_register_116 : decode m_R_register.2.1 116 = .ok (.iadd, 1) := by decide +kernel
theorem d_R_register_117 : decode m_R_register.2.1 117 = .ok (.iload_n 3, 1) := by decide +kernel
theorem d_R_register_118 : decode m_R_register.2.1 118 = .ok (.iastore, 1) := by decide +kernel
theorem d_R_register_119 : decode m_R_register.2.1 119 = .ok (.aload_n 0, 1) := by decide +kernel
theorem d_R_register_120 : decode m_R_register.2.1 120 = .ok (.getfield 92, 3) := by decide +kernel
theorem d_R_register_123 : decode m_R_register.2.1 123 = .ok (.iload 4, 2) := by decide +kernel
theorem d_R_register_125 : decode m_R_register.2.1 125 = .ok (.dup2, 1) := by decide +kernel
theorem d_R_register_126 : decode m_R_register.2.1 126 = .ok (.iaload, 1) := by decide +kernel
theorem d_R_register_127 : decode m_R_register.2.1 127 = .ok (.iconst 1, 1) := by decide +kernel
theorem d_R_register_128 : decode m_R_register.2.1 128 = .ok (.iadd, 1) := by decide +kernel
theorem d_R_register_129 : decode m_R_register.2.1 129 = .ok (.iastore, 1) := by decide +kernel
theorem d_R_register_130 : decode m_R_register.2.1 130 = .ok (.aload_n 0, 1) := by decide +kernel
theorem d_R_register_131 : decode m_R_register.2.1 131 = .ok (.iload_n 1, 1) := by decide +kernel
theorem d_R_register_132 : decode m_R_register.2.1 132 = .ok (.iload_n 3, 1) := by decide +kernel
theorem d_R_register_133 : decode m_R_register.2.1 133 = .ok (.invokevirtual 198, 3) := by decide +kernel
theorem d_R_register_136 : decode m_R_register.2.1 136 = .ok (.return_, 1) := by decide +kernel
theorem d_R_shared_0 : decode m_R_shared.2.1 0 = .ok (.aload_n 0, 1) := by decide +kernel
theorem d_R_shared_1 : decode m_R_shared.2.1 1 = .ok (.iload_n 1, 1) := by decide +kernel
theorem d_R_shared_2 : decode m_R_shared.2.1 2 = .ok (.iload 4, 2) := by decide +kernel
theorem d_R_shared_4 : decode m_R_shared.2.1 4 = .ok (.invokevirtual 198, 3) := by decide +kernel
theorem d_R_shared_7 : decode m_R_shared.2.1 7 = .ok (.iload_n 2, 1) := by decide +kernel
theorem d_R_shared_8 : decode m_R_shared.2.1 8 = .ok (.tableswitch 157 19 23 #[36, 50, 61, 95, 122], 36) := by decide +kernel
theorem d_R_shared_44 : decode m_R_shared.2.1 44 = .ok (.aload_n 0, 1) := by decide +kernel
theorem d_R_shared_45 : decode m_R_shared.2.1 45 = .ok (.iload_n 1, 1) := by decide +kernel
theorem d_R_shared_46 : decode m_R_shared.2.1 46 = .ok (.aload_n 0, 1) := by decide +kernel
theorem d_R_shared_47 : decode m_R_shared.2.1 47 = .ok (.getfield 119, 3) := by decide +kernel
theorem d_R_shared_50 : decode m_R_shared.2.1 50 = .ok (.iload_n 3, 1) := by decide +kernel
theorem d_R_shared_51 : decode m_R_shared.2.1 51 = .ok (.iaload, 1) := by decide +kernel
theorem d_R_shared_52 : decode m_R_shared.2.1 52 = .ok (.invokevirtual 198, 3) := by decide +kernel
theorem d_R_shared_55 : decode m_R_shared.2.1 55 = .ok (.goto 156, 3) := by decide +kernel
theorem d_R_shared_58 : decode m_R_shared.2.1 58 = .ok (.aload_n 0, 1) := by decide +kernel
theorem d_R_shared_59 : decode m_R_shared.2.1 59 = .ok (.getfield 119, 3) := by decide +kernel
theorem d_R_shared_62 : decode m_R_shared.2.1 62 = .ok (.iload_n 3, 1) := by decide +kernel
theorem d_R_shared_63 : decode m_R_shared.2.1 63 = .ok (.iload 4, 2) := by decide +kernel
theorem d_R_shared_65 : decode m_R_shared.2.1 65 = .ok (.iastore, 1) := by decide +kernel
theorem d_R_shared_66 : decode m_R_shared.2.1 66 = .ok (.goto 145, 3) := by decide +kernel
theorem d_R_shared_69 : decode m_R_shared.2.1 69 = .ok (.aload_n 0, 1) := by decide +kernel
theorem d_R_shared_70 : decode m_R_shared.2.1 70 = .ok (.getfield 131, 3) := by decide +kernel
theorem d_R_shared_73 : decode m_R_shared.2.1 73 = .ok (.iload_n 3, 1) := by decide +kernel
theorem d_R_shared_74 : decode m_R_shared.2.1 74 = .ok (.baload, 1) := by decide +kernel
theorem d_R_shared_75 : decode m_R_shared.2.1 75 = .ok (.ifCond .eq 17, 3) := by decide +kernel
theorem d_R_shared_78 : decode m_R_shared.2.1 78 = .ok (.aload_n 0, 1) := by decide +kernel
theorem d_R_shared_79 : decode m_R_shared.2.1 79 = .ok (.iload_n 1, 1) := by decide +kernel
theorem d_R_shared_80 : decode m_R_shared.2.1 80 = .ok (.aload_n 0, 1) := by decide +kernel
theorem d_R_shared_81 : decode m_R_shared.2.1 81 = .ok (.getfield 122, 3) := by decide +kernel
theorem d_R_shared_84 : decode m_R_shared.2.1 84 = .ok (.iload_n 3, 1) := by decide +kernel
theorem d_R_shared_85 : decode m_R_shared.2.1 85 = .ok (.iaload, 1) := by decide +kernel
theorem d_R_shared_86 : decode m_R_shared.2.1 86 = .ok (.invokevirtual 198, 3) := by decide +kernel
theorem d_R_shared_89 : decode m_R_shared.2.1 89 = .ok (.goto 122, 3) := by decide +kernel
theorem d_R_shared_92 : decode m_R_shared.2.1 92 = .ok (.aload_n 0, 1) := by decide +kernel
theorem d_R_shared_93 : decode m_R_shared.2.1 93 = .ok (.iload_n 1, 1) := by decide +kernel
theorem d_R_shared_94 : decode m_R_shared.2.1 94 = .ok (.iconst 5, 1) := by decide +kernel
theorem d_R_shared_95 : decode m_R_shared.2.1 95 = .ok (.iload_n 3, 1) := by decide +kernel
theorem d_R_shared_96 : decode m_R_shared.2.1 96 = .ok (.iconst 0, 1) := by decide +kernel
theorem d_R_shared_97 : decode m_R_shared.2.1 97 = .ok (.invokevirtual 240, 3) := by decide +kernel
theorem d_R_shared_100 : decode m_R_shared.2.1 100 = .ok (.goto 111, 3) := by decide +kernel
theorem d_R_shared_103 : decode m_R_shared.2.1 103 = .ok (.aload_n 0, 1) := by decide +kernel
theorem d_R_shared_104 : decode m_R_shared.2.1 104 = .ok (.iload_n 3, 1) := by decide +kernel
theorem d_R_shared_105 : decode m_R_shared.2.1 105 = .ok (.iload 4, 2) := by decide +kernel
theorem d_R_shared_107 : decode m_R_shared.2.1 107 = .ok (.invokevirtual 201, 3) := by decide +kernel
theorem d_R_shared_110 : decode m_R_shared.2.1 110 = .ok (.istore 5, 2) := by decide +kernel
theorem d_R_shared_112 : decode m_R_shared.2.1 112 = .ok (.aload_n 0, 1) := by decide +kernel
theorem d_R_shared_113 : decode m_R_shared.2.1 113 = .ok (.iload_n 1, 1) := by decide +kernel
theorem d_R_shared_114 : decode m_R_shared.2.1 114 = .ok (.iload 5, 2) := by decide +kernel
theorem d_R_shared_116 : decode m_R_shared.2.1 116 = .ok (.ifCond .eq 7, 3) := by decide +kernel
theorem d_R_shared_119 : decode m_R_shared.2.1 119 = .ok (.iconst 1, 1) := by decide +kernel
theorem d_R_shared_120 : decode m_R_shared.2.1 120 = .ok (.goto 4, 3) := by decide +kernel
theorem d_R_shared_123 : decode m_R_shared.2.1 123 = .ok (.iconst 0, 1) := by decide +kernel
theorem d_R_shared_124 : decode m_R_shared.2.1 124 = .ok (.invokevirtual 198, 3) := by decide +kernel
theorem d_R_shared_127 : decode m_R_shared.2.1 127 = .ok (.goto 84, 3) := by decide +kernel
theorem d_R_shared_130 : decode m_R_shared.2.1 130 = .ok (.aload_n 0, 1) := by decide +kernel
theorem d_R_shared_131 : decode m_R_shared.2.1 131 = .ok (.getfield 125, 3) := by decide +kernel
theorem d_R_shared_134 : decode m_R_shared.2.1 134 = .ok (.iload_n 3, 1) := by decide +kernel
theorem d_R_shared_135 : decode m_R_shared.2.1 135 = .ok (.iaload, 1) := by decide +kernel
theorem d_R_shared_136 : decode m_R_shared.2.1 136 = .ok (.ifCond .le 16, 3) := by decide +kernel
theorem d_R_shared_139 : decode m_R_shared.2.1 139 = .ok (.aload_n 0, 1) := by decide +kernel
theorem d_R_shared_140 : decode m_R_shared.2.1 140 = .ok (.getfield 125, 3) := by decide +kernel
theorem d_R_shared_143 : decode m_R_shared.2.1 143 = .ok (.iload_n 3, 1) := by decide +kernel
theorem d_R_shared_144 : decode m_R_shared.2.1 144 = .ok (.dup2, 1) := by decide +kernel
theorem d_R_shared_145 : decode m_R_shared.2.1 145 = .ok (.iaload, 1) := by decide +kernel
theorem d_R_shared_146 : decode m_R_shared.2.1 146 = .ok (.iconst 1, 1) := by decide +kernel
theorem d_R_shared_147 : decode m_R_shared.2.1 147 = .ok (.isub, 1) := by decide +kernel
theorem d_R_shared_148 : decode m_R_shared.2.1 148 = .ok (.iastore, 1) := by decide +kernel
theorem d_R_shared_149 : decode m_R_shared.2.1 149 = .ok (.goto 62, 3) := by decide +kernel
theorem d_R_shared_152 : decode m_R_shared.2.1 152 = .ok (.aload_n 0, 1) := by decide +kernel
theorem d_R_shared_153 : decode m_R_shared.2.1 153 = .ok (.iload_n 1, 1) := by decide +kernel
theorem d_R_shared_154 : decode m_R_shared.2.1 154 = .ok (.bipush 6, 2) := by decide +kernel
theorem d_R_shared_156 : decode m_R_shared.2.1 156 = .ok (.iload_n 3, 1) := by decide +kernel
theorem d_R_shared_157 : decode m_R_shared.2.1 157 = .ok (.iload 4, 2) := by decide +kernel
theorem d_R_shared_159 : decode m_R_shared.2.1 159 = .ok (.invokevirtual 240, 3) := by decide +kernel
theorem d_R_shared_162 : decode m_R_shared.2.1 162 = .ok (.goto 49, 3) := by decide +kernel
theorem d_R_shared_165 : decode m_R_shared.2.1 165 = .ok (.aload_n 0, 1) := by decide +kernel
theorem d_R_shared_166 : decode m_R_shared.2.1 166 = .ok (.bipush 6, 2) := by decide +kernel
theorem d_R_shared_168 : decode m_R_shared.2.1 168 = .ok (.iload_n 3, 1) := by decide +kernel
theorem d_R_shared_169 : decode m_R_shared.2.1 169 = .ok (.invokevirtual 194, 3) := by decide +kernel
theorem d_R_shared_172 : decode m_R_shared.2.1 172 = .ok (.istore 6, 2) := by decide +kernel
theorem d_R_shared_174 : decode m_R_shared.2.1 174 = .ok (.iload 6, 2) := by decide +kernel
theorem d_R_shared_176 : decode m_R_shared.2.1 176 = .ok (.ifCond .ge 16, 3) := by decide +kernel
theorem d_R_shared_179 : decode m_R_shared.2.1 179 = .ok (.aload_n 0, 1) := by decide +kernel
theorem d_R_shared_180 : decode m_R_shared.2.1 180 = .ok (.getfield 125, 3) := by decide +kernel
theorem d_R_shared_183 : decode m_R_shared.2.1 183 = .ok (.iload_n 3, 1) := by decide +kernel
theorem d_R_shared_184 : decode m_R_shared.2.1 184 = .ok (.dup2, 1) := by decide +kernel
theorem d_R_shared_185 : decode m_R_shared.2.1 185 = .ok (.iaload, 1) := by decide +kernel
theorem d_R_shared_186 : decode m_R_shared.2.1 186 = .ok (.iconst 1, 1) := by decide +kernel
theorem d_R_shared_187 : decode m_R_shared.2.1 187 = .ok (.iadd, 1) := by decide +kernel
theorem d_R_shared_188 : decode m_R_shared.2.1 188 = .ok (.iastore, 1) := by decide +kernel
theorem d_R_shared_189 : decode m_R_shared.2.1 189 = .ok (.goto 22, 3) := by decide +kernel
theorem d_R_shared_192 : decode m_R_shared.2.1 192 = .ok (.aload_n 0, 1) := by decide +kernel
theorem d_R_shared_193 : decode m_R_shared.2.1 193 = .ok (.iload 6, 2) := by decide +kernel
theorem d_R_shared_195 : decode m_R_shared.2.1 195 = .ok (.aload_n 0, 1) := by decide +kernel
theorem d_R_shared_196 : decode m_R_shared.2.1 196 = .ok (.getfield 59, 3) := by decide +kernel
theorem d_R_shared_199 : decode m_R_shared.2.1 199 = .ok (.iload 6, 2) := by decide +kernel
theorem d_R_shared_201 : decode m_R_shared.2.1 201 = .ok (.iaload, 1) := by decide +kernel
theorem d_R_shared_202 : decode m_R_shared.2.1 202 = .ok (.invokevirtual 198, 3) := by decide +kernel
theorem d_R_shared_205 : decode m_R_shared.2.1 205 = .ok (.aload_n 0, 1) := by decide +kernel
theorem d_R_shared_206 : decode m_R_shared.2.1 206 = .ok (.iload 6, 2) := by decide +kernel
theorem d_R_shared_208 : decode m_R_shared.2.1 208 = .ok (.invokevirtual 186, 3) := by decide +kernel
theorem d_R_shared_211 : decode m_R_shared.2.1 211 = .ok (.return_, 1) := by decide +kernel
theorem d_R_comes_0 : decode m_R_comes.2.1 0 = .ok (.aload_n 0, 1) := by decide +kernel
theorem d_R_comes_1 : decode m_R_comes.2.1 1 = .ok (.getfield 50, 3) := by decide +kernel
theorem d_R_comes_4 : decode m_R_comes.2.1 4 = .ok (.iload_n 1, 1) := by decide +kernel
theorem d_R_comes_5 : decode m_R_comes.2.1 5 = .ok (.baload, 1) := by decide +kernel
theorem d_R_comes_6 : decode m_R_comes.2.1 6 = .ok (.ifCond .ne 7, 3) := by decide +kernel
theorem d_R_comes_9 : decode m_R_comes.2.1 9 = .ok (.iconst 1, 1) := by decide +kernel
theorem d_R_comes_10 : decode m_R_comes.2.1 10 = .ok (.goto 4, 3) := by decide +kernel
theorem d_R_comes_13 : decode m_R_comes.2.1 13 = .ok (.iconst 0, 1) := by decide +kernel
theorem d_R_comes_14 : decode m_R_comes.2.1 14 = .ok (.istore_n 3, 1) := by decide +kernel
theorem d_R_comes_15 : decode m_R_comes.2.1 15 = .ok (.aload_n 0, 1) := by decide +kernel
theorem d_R_comes_16 : decode m_R_comes.2.1 16 = .ok (.getfield 50, 3) := by decide +kernel
theorem d_R_comes_19 : decode m_R_comes.2.1 19 = .ok (.iload_n 1, 1) := by decide +kernel
theorem d_R_comes_20 : decode m_R_comes.2.1 20 = .ok (.baload, 1) := by decide +kernel
theorem d_R_comes_21 : decode m_R_comes.2.1 21 = .ok (.ifCond .eq 30, 3) := by decide +kernel
theorem d_R_comes_24 : decode m_R_comes.2.1 24 = .ok (.aload_n 0, 1) := by decide +kernel
theorem d_R_comes_25 : decode m_R_comes.2.1 25 = .ok (.getfield 107, 3) := by decide +kernel
theorem d_R_comes_28 : decode m_R_comes.2.1 28 = .ok (.iload_n 1, 1) := by decide +kernel
theorem d_R_comes_29 : decode m_R_comes.2.1 29 = .ok (.iaload, 1) := by decide +kernel
theorem d_R_comes_30 : decode m_R_comes.2.1 30 = .ok (.iconst 1, 1) := by decide +kernel
theorem d_R_comes_31 : decode m_R_comes.2.1 31 = .ok (.if_icmp .ne 20, 3) := by decide +kernel
theorem d_R_comes_34 : decode m_R_comes.2.1 34 = .ok (.aload_n 0, 1) := by decide +kernel
theorem d_R_comes_35 : decode m_R_comes.2.1 35 = .ok (.getfield 110, 3) := by decide +kernel
theorem d_R_comes_38 : decode m_R_comes.2.1 38 = .ok (.bipush 9, 2) := by decide +kernel
theorem d_R_comes_40 : decode m_R_comes.2.1 40 = .ok (.iload_n 1, 1) := by decide +kernel
theorem d_R_comes_41 : decode m_R_comes.2.1 41 = .ok (.imul, 1) := by decide +kernel
theorem d_R_comes_42 : decode m_R_comes.2.1 42 = .ok (.iaload, 1) := by decide +kernel
theorem d_R_comes_43 : decode m_R_comes.2.1 43 = .ok (.iconst 1, 1) := by decide +kernel
theorem d_R_comes_44 : decode m_R_comes.2.1 44 = .ok (.if_icmp .ne 7, 3) := by decide +kernel
theorem d_R_comes_47 : decode m_R_comes.2.1 47 = .ok (.iconst 1, 1) := by decide +kernel
theorem d_R_comes_48 : decode m_R_comes.2.1 48 = .ok (.goto 4, 3) := by decide +kernel
theorem d_R_comes_51 : decode m_R_comes.2.1 51 = .ok (.iconst 0, 1) := by decide +kernel
theorem d_R_comes_52 : decode m_R_comes.2.1 52 = .ok (.istore 4, 2) := by decide +kernel
theorem d_R_comes_54 : decode m_R_comes.2.1 54 = .ok (.aload_n 0, 1) := by decide +kernel
theorem d_R_comes_55 : decode m_R_comes.2.1 55 = .ok (.getfield 80, 3) := by decide +kernel
theorem d_R_comes_58 : decode m_R_comes.2.1 58 = .ok (.iload_n 2, 1) := by decide +kernel
theorem d_R_comes_59 : decode m_R_comes.2.1 59 = .ok (.iaload, 1) := by decide +kernel
theorem d_R_comes_60 : decode m_R_comes.2.1 60 = .ok (.istore 5, 2) := by decide +kernel
theorem d_R_comes_62 : decode m_R_comes.2.1 62 = .ok (.aload_n 0, 1) := by decide +kernel
theorem d_R_comes_63 : decode m_R_comes.2.1 63 = .ok (.getfield 83, 3) := by decide +kernel
theorem d_R_comes_66 : decode m_R_comes.2.1 66 = .ok (.iload_n 2, 1) := by decide +kernel
theorem d_R_comes_67 : decode m_R_comes.2.1 67 = .ok (.iaload, 1) := by decide +kernel
theorem d_R_comes_68 : decode m_R_comes.2.1 68 = .ok (.bipush 9, 2) := by decide +kernel
theorem d_R_comes_70 : decode m_R_comes.2.1 70 = .ok (.if_icmp .ne 67, 3) := by decide +kernel
theorem d_R_comes_73 : decode m_R_comes.2.1 73 = .ok (.iload_n 3, 1) := by decide +kernel
theorem d_R_comes_74 : decode m_R_comes.2.1 74 = .ok (.ifCond .ne 25, 3) := by decide +kernel
theorem d_R_comes_77 : decode m_R_comes.2.1 77 = .ok (.aload_n 0, 1) := by decide +kernel
theorem d_R_comes_78 : decode m_R_comes.2.1 78 = .ok (.getfield 104, 3) := by decide +kernel
theorem d_R_comes_81 : decode m_R_comes.2.1 81 = .ok (.iload_n 2, 1) := by decide +kernel
theorem d_R_comes_82 : decode m_R_comes.2.1 82 = .ok (.baload, 1) := by decide +kernel
theorem d_R_comes_83 : decode m_R_comes.2.1 83 = .ok (.ifCond .eq 16, 3) := by decide +kernel
theorem d_R_comes_86 : decode m_R_comes.2.1 86 = .ok (.aload_n 0, 1) := by decide +kernel
theorem d_R_comes_87 : decode m_R_comes.2.1 87 = .ok (.bipush 10, 2) := by decide +kernel
theorem d_R_comes_89 : decode m_R_comes.2.1 89 = .ok (.iload_n 2, 1) := by decide +kernel
theorem d_R_comes_90 : decode m_R_comes.2.1 90 = .ok (.iadd, 1) := by decide +kernel
theorem d_R_comes_91 : decode m_R_comes.2.1 91 = .ok (.iload_n 1, 1) := by decide +kernel
theorem d_R_comes_92 : decode m_R_comes.2.1 92 = .ok (.iconst 4, 1) := by decide +kernel
theorem d_R_comes_93 : decode m_R_comes.2.1 93 = .ok (.invokevirtual 255, 3) := by decide +kernel
theorem d_R_comes_96 : decode m_R_comes.2.1 96 = .ok (.goto 16, 3) := by decide +kernel
theorem d_R_comes_99 : decode m_R_comes.2.1 99 = .ok (.iload_n 3, 1) := by decide +kernel
theorem d_R_comes_100 : decode m_R_comes.2.1 100 = .ok (.ifCond .ne 12, 3) := by decide +kernel
theorem d_R_comes_103 : decode m_R_comes.2.1 103 = .ok (.aload_n 0, 1) := by decide +kernel
theorem d_R_comes_104 : decode m_R_comes.2.1 104 = .ok (.iload_n 1, 1) := by decide +kernel
theorem d_R_comes_105 : decode m_R_comes.2.1 105 = .ok (.bipush 10, 2) := by decide +kernel
theorem d_R_comes_107 : decode m_R_comes.2.1 107 = .ok (.iload_n 2, 1) := by decide +kernel
theorem d_R_comes_108 : decode m_R_comes.2.1 108 = .ok (.iadd, 1) := by decide +kernel
theorem d_R_comes_109 : decode m_R_comes.2.1 109 = .ok (.invokevirtual 252, 3) := by decide +kernel
theorem d_R_comes_112 : decode m_R_comes.2.1 112 = .ok (.aload_n 0, 1) := by decide +kernel
theorem d_R_comes_113 : decode m_R_comes.2.1 113 = .ok (.getfield 104, 3) := by decide +kernel
theorem d_R_comes_116 : decode m_R_comes.2.1 116 = .ok (.iload_n 2, 1) := by decide +kernel
theorem d_R_comes_117 : decode m_R_comes.2.1 117 = .ok (.dup2, 1) := by decide +kernel
theorem d_R_comes_118 : decode m_R_comes.2.1 118 = .ok (.baload, 1) := by decide +kernel
theorem d_R_comes_119 : decode m_R_comes.2.1 119 = .ok (.iload_n 3, 1) := by decide +kernel
theorem d_R_comes_120 : decode m_R_comes.2.1 120 = .ok (.ifCond .ne 7, 3) := by decide +kernel
theorem d_R_comes_123 : decode m_R_comes.2.1 123 = .ok (.iconst 1, 1) := by decide +kernel
theorem d_R_comes_124 : decode m_R_comes.2.1 124 = .ok (.goto 4, 3) := by decide +kernel
theorem d_R_comes_127 : decode m_R_comes.2.1 127 = .ok (.iconst 0, 1) := by decide +kernel
theorem d_R_comes_128 : decode m_R_comes.2.1 128 = .ok (.ior, 1) := by decide +kernel
theorem d_R_comes_129 : decode m_R_comes.2.1 129 = .ok (.bastore, 1) := by decide +kernel
theorem d_R_comes_130 : decode m_R_comes.2.1 130 = .ok (.aload_n 0, 1) := by decide +kernel
theorem d_R_comes_131 : decode m_R_comes.2.1 131 = .ok (.iload_n 1, 1) := by decide +kernel
theorem d_R_comes_132 : decode m_R_comes.2.1 132 = .ok (.iload_n 2, 1) := by decide +kernel
theorem d_R_comes_133 : decode m_R_comes.2.1 133 = .ok (.invokevirtual 258, 3) := by decide +kernel
theorem d_R_comes_136 : decode m_R_comes.2.1 136 = .ok (.return_, 1) := by decide +kernel
theorem d_R_comes_137 : decode m_R_comes.2.1 137 = .ok (.aload_n 0, 1) := by decide +kernel
theorem d_R_comes_138 : decode m_R_comes.2.1 138 = .ok (.getfield 77, 3) := by decide +kernel
theorem d_R_comes_141 : decode m_R_comes.2.1 141 = .ok (.iload_n 2, 1) := by decide +kernel
theorem d_R_comes_142 : decode m_R_comes.2.1 142 = .ok (.iaload, 1) := by decide +kernel
theorem d_R_comes_143 : decode m_R_comes.2.1 143 = .ok (.tableswitch 259 4 9 #[37, 37, 259, 136, 111, 111], 37) := by decide +kernel
theorem d_R_comes_180 : decode m_R_comes.2.1 180 = .ok (.aload_n 0, 1) := by decide +kernel
theorem d_R_comes_181 : decode m_R_comes.2.1 181 = .ok (.getfield 74, 3) := by decide +kernel
theorem d_R_comes_184 : decode m_R_comes.2.1 184 = .ok (.iload_n 1, 1) := by decide +kernel
theorem d_R_comes_185 : decode m_R_comes.2.1 185 = .ok (.dup2, 1) := by decide +kernel
theorem d_R_comes_186 : decode m_R_comes.2.1 186 = .ok (.iaload, 1) := by decide +kernel
theorem d_R_comes_187 : decode m_R_comes.2.1 187 = .ok (.iconst 1, 1) := by decide +kernel
theorem d_R_comes_188 : decode m_R_comes.2.1 188 = .ok (.isub, 1) := by decide +kernel
theorem d_R_comes_189 : decode m_R_comes.2.1 189 = .ok (.iastore, 1) := by decide +kernel
theorem d_R_comes_190 : decode m_R_comes.2.1 190 = .ok (.iload_n 3, 1) := by decide +kernel
theorem d_R_comes_191 : decode m_R_comes.2.1 191 = .ok (.ifCond .eq 24, 3) := by decide +kernel
theorem d_R_comes_194 : decode m_R_comes.2.1 194 = .ok (.aload_n 0, 1) := by decide +kernel
theorem d_R_comes_195 : decode m_R_comes.2.1 195 = .ok (.iload_n 1, 1) := by decide +kernel
theorem d_R_comes_196 : decode m_R_comes.2.1 196 = .ok (.aload_n 0, 1) := by decide +kernel
theorem d_R_comes_197 : decode m_R_comes.2.1 197 = .ok (.getfield 16, 3) := by decide +kernel
theorem d_R_comes_200 : decode m_R_comes.2.1 200 = .ok (.iload 5, 2) := by decide +kernel
theorem d_R_comes_202 : decode m_R_comes.2.1 202 = .ok (.iaload, 1) := by decide +kernel
theorem d_R_comes_203 : decode m_R_comes.2.1 203 = .ok (.aload_n 0, 1) := by decide +kernel
theorem d_R_comes_204 : decode m_R_comes.2.1 204 = .ok (.getfield 47, 3) := by decide +kernel
theorem d_R_comes_207 : decode m_R_comes.2.1 207 = .ok (.iload_n 1, 1) := by decide +kernel
theorem d_R_comes_208 : decode m_R_comes.2.1 208 = .ok (.iaload, 1) := by decide +kernel
theorem d_R_comes_209 : decode m_R_comes.2.1 209 = .ok (.invokevirtual 233, 3) := by decide +kernel
theorem d_R_comes_212 : decode m_R_comes.2.1 212 = .ok (.goto 243, 3) := by decide +kernel
theorem d_R_comes_215 : decode m_R_comes.2.1 215 = .ok (.aload_n 0, 1) := by decide +kernel
theorem d_R_comes_216 : decode m_R_comes.2.1 216 = .ok (.getfield 77, 3) := by decide +kernel
theorem d_R_comes_219 : decode m_R_comes.2.1 219 = .ok (.iload_n 2, 1) := by decide +kernel
theorem d_R_comes_220 : decode m_R_comes.2.1 220 = .ok (.iaload, 1) := by decide +kernel
theorem d_R_comes_221 : decode m_R_comes.2.1 221 = .ok (.iconst 5, 1) := by decide +kernel
theorem d_R_comes_222 : decode m_R_comes.2.1 222 = .ok (.if_icmp .ne 233, 3) := by decide +kernel
theorem d_R_comes_225 : decode m_R_comes.2.1 225 = .ok (.iload 4, 2) := by decide +kernel
theorem d_R_comes_227 : decode m_R_comes.2.1 227 = .ok (.ifCond .eq 228, 3) := by decide +kernel
theorem d_R_comes_230 : decode m_R_comes.2.1 230 = .ok (.aload_n 0, 1) := by decide +kernel
theorem d_R_comes_231 : decode m_R_comes.2.1 231 = .ok (.iload_n 1, 1) := by decide +kernel
theorem d_R_comes_232 : decode m_R_comes.2.1 232 = .ok (.aload_n 0, 1) := by decide +kernel
theorem d_R_comes_233 : decode m_R_comes.2.1 233 = .ok (.getfield 19, 3) := by decide +kernel
theorem d_R_comes_236 : decode m_R_comes.2.1 236 = .ok (.iload 5, 2) := by decide +kernel
theorem d_R_comes_238 : decode m_R_comes.2.1 238 = .ok (.iaload, 1) := by decide +kernel
theorem d_R_comes_239 : decode m_R_comes.2.1 239 = .ok (.aload_n 0, 1) := by decide +kernel
theorem d_R_comes_240 : decode m_R_comes.2.1 240 = .ok (.getfield 113, 3) := by decide +kernel
theorem d_R_comes_243 : decode m_R_comes.2.1 243 = .ok (.bipush 9, 2) := by decide +kernel
theorem d_R_comes_245 : decode m_R_comes.2.1 245 = .ok (.iload_n 1, 1) := by decide +kernel
theorem d_R_comes_246 : decode m_R_comes.2.1 246 = .ok (.imul, 1) := by decide +kernel
theorem d_R_comes_247 : decode m_R_comes.2.1 247 = .ok (.iaload, 1) := by decide +kernel
theorem d_R_comes_248 : decode m_R_comes.2.1 248 = .ok (.invokevirtual 233, 3) := by decide +kernel
theorem d_R_comes_251 : decode m_R_comes.2.1 251 = .ok (.goto 204, 3) := by decide +kernel
theorem d_R_comes_254 : decode m_R_comes.2.1 254 = .ok (.aload_n 0, 1) := by decide +kernel
theorem d_R_comes_255 : decode m_R_comes.2.1 255 = .ok (.getfield 74, 3) := by decide +kernel
theorem d_R_comes_258 : decode m_R_comes.2.1 258 = .ok (.iload_n 1, 1) := by decide +kernel
theorem d_R_comes_259 : decode m_R_comes.2.1 259 = .ok (.dup2, 1) := by decide +kernel
theorem d_R_comes_260 : decode m_R_comes.2.1 260 = .ok (.iaload, 1) := by decide +kernel
theorem d_R_comes_261 : decode m_R_comes.2.1 261 = .ok (.iconst 1, 1) := by decide +kernel
theorem d_R_comes_262 : decode m_R_comes.2.1 262 = .ok (.isub, 1) := by decide +kernel
theorem d_R_comes_263 : decode m_R_comes.2.1 263 = .ok (.iastore, 1) := by decide +kernel
theorem d_R_comes_264 : decode m_R_comes.2.1 264 = .ok (.aload_n 0, 1) := by decide +kernel
theorem d_R_comes_265 : decode m_R_comes.2.1 265 = .ok (.getfield 37, 3) := by decide +kernel
theorem d_R_comes_268 : decode m_R_comes.2.1 268 = .ok (.iload_n 1, 1) := by decide +kernel
theorem d_R_comes_269 : decode m_R_comes.2.1 269 = .ok (.aload_n 0, 1) := by decide +kernel
theorem d_R_comes_270 : decode m_R_comes.2.1 270 = .ok (.getfield 101, 3) := by decide +kernel
theorem d_R_comes_273 : decode m_R_comes.2.1 273 = .ok (.iload_n 2, 1) := by decide +kernel
theorem d_R_comes_274 : decode m_R_comes.2.1 274 = .ok (.baload, 1) := by decide +kernel
theorem d_R_comes_275 : decode m_R_comes.2.1 275 = .ok (.bastore, 1) := by decide +kernel
theorem d_R_comes_276 : decode m_R_comes.2.1 276 = .ok (.goto 179, 3) := by decide +kernel
theorem d_R_comes_279 : decode m_R_comes.2.1 279 = .ok (.aload_n 0, 1) := by decide +kernel
theorem d_R_comes_280 : decode m_R_comes.2.1 280 = .ok (.getfield 83, 3) := by decide +kernel
theorem d_R_comes_283 : decode m_R_comes.2.1 283 = .ok (.iload_n 2, 1) := by decide +kernel
theorem d_R_comes_284 : decode m_R_comes.2.1 284 = .ok (.iaload, 1) := by decide +kernel
theorem d_R_comes_285 : decode m_R_comes.2.1 285 = .ok (.ifCond .ne 72, 3) := by decide +kernel
theorem d_R_comes_288 : decode m_R_comes.2.1 288 = .ok (.aload_n 0, 1) := by decide +kernel
theorem d_R_comes_289 : decode m_R_comes.2.1 289 = .ok (.getfield 37, 3) := by decide +kernel
theorem d_R_comes_292 : decode m_R_comes.2.1 292 = .ok (.iload_n 1, 1) := by decide +kernel
theorem d_R_comes_293 : decode m_R_comes.2.1 293 = .ok (.aload_n 0, 1) := by decide +kernel
theorem d_R_comes_294 : decode m_R_comes.2.1 294 = .ok (.getfield 101, 3) := by decide +kernel
theorem d_R_comes_297 : decode m_R_comes.2.1 297 = .ok (.iload_n 2, 1) := by decide +kernel
theorem d_R_comes_298 : decode m_R_comes.2.1 298 = .ok (.baload, 1) := by decide +kernel
theorem d_R_comes_299 : decode m_R_comes.2.1 299 = .ok (.bastore, 1) := by decide +kernel
theorem d_R_comes_300 : decode m_R_comes.2.1 300 = .ok (.iload_n 3, 1) := by decide +kernel
theorem d_R_comes_301 : decode m_R_comes.2.1 301 = .ok (.ifCond .ne 16, 3) := by decide +kernel
theorem d_R_comes_304 : decode m_R_comes.2.1 304 = .ok (.aload_n 0, 1) := by decide +kernel
theorem d_R_comes_305 : decode m_R_comes.2.1 305 = .ok (.getfield 74, 3) := by decide +kernel
theorem d_R_comes_308 : decode m_R_comes.2.1 308 = .ok (.iload_n 1, 1) := by decide +kernel
theorem d_R_comes_309 : decode m_R_comes.2.1 309 = .ok (.dup2, 1) := by decide +kernel
theorem d_R_comes_310 : decode m_R_comes.2.1 310 = .ok (.iaload, 1) := by decide +kernel
theorem d_R_comes_311 : decode m_R_comes.2.1 311 = .ok (.iconst 1, 1) := by decide +kernel
theorem d_R_comes_312 : decode m_R_comes.2.1 312 = .ok (.isub, 1) := by decide +kernel
theorem d_R_comes_313 : decode m_R_comes.2.1 313 = .ok (.iastore, 1) := by decide +kernel
theorem d_R_comes_314 : decode m_R_comes.2.1 314 = .ok (.goto 141, 3) := by decide +kernel
theorem d_R_comes_317 : decode m_R_comes.2.1 317 = .ok (.aload_n 0, 1) := by decide +kernel
theorem d_R_comes_318 : decode m_R_comes.2.1 318 = .ok (.getfield 83, 3) := by decide +kernel
theorem d_R_comes_321 : decode m_R_comes.2.1 321 = .ok (.iload_n 2, 1) := by decide +kernel
theorem d_R_comes_322 : decode m_R_comes.2.1 322 = .ok (.iconst 1, 1) := by decide +kernel
theorem d_R_comes_323 : decode m_R_comes.2.1 323 = .ok (.iastore, 1) := by decide +kernel
theorem d_R_comes_324 : decode m_R_comes.2.1 324 = .ok (.aload_n 0, 1) := by decide +kernel
theorem d_R_comes_325 : decode m_R_comes.2.1 325 = .ok (.getfield 86, 3) := by decide +kernel
theorem d_R_comes_328 : decode m_R_comes.2.1 328 = .ok (.iload_n 2, 1) := by decide +kernel
theorem d_R_comes_329 : decode m_R_comes.2.1 329 = .ok (.aload_n 0, 1) := by decide +kernel
theorem d_R_comes_330 : decode m_R_comes.2.1 330 = .ok (.getfield 47, 3) := by decide +kernel
theorem d_R_comes_333 : decode m_R_comes.2.1 333 = .ok (.iload_n 1, 1) := by decide +kernel
theorem d_R_comes_334 : decode m_R_comes.2.1 334 = .ok (.iaload, 1) := by decide +kernel
theorem d_R_comes_335 : decode m_R_comes.2.1 335 = .ok (.iastore, 1) := by decide +kernel
theorem d_R_comes_336 : decode m_R_comes.2.1 336 = .ok (.aload_n 0, 1) := by decide +kernel
theorem d_R_comes_337 : decode m_R_comes.2.1 337 = .ok (.iload_n 1, 1) := by decide +kernel
theorem d_R_comes_338 : decode m_R_comes.2.1 338 = .ok (.aload_n 0, 1) := by decide +kernel
theorem d_R_comes_339 : decode m_R_comes.2.1 339 = .ok (.getfield 16, 3) := by decide +kernel
theorem d_R_comes_342 : decode m_R_comes.2.1 342 = .ok (.iload 5, 2) := by decide +kernel
theorem d_R_comes_344 : decode m_R_comes.2.1 344 = .ok (.iaload, 1) := by decide +kernel
theorem d_R_comes_345 : decode m_R_comes.2.1 345 = .ok (.aload_n 0, 1) := by decide +kernel
theorem d_R_comes_346 : decode m_R_comes.2.1 346 = .ok (.getfield 47, 3) := by decide +kernel
theorem d_R_comes_349 : decode m_R_comes.2.1 349 = .ok (.iload_n 1, 1) := by decide +kernel
theorem d_R_comes_350 : decode m_R_comes.2.1 350 = .ok (.iaload, 1) := by decide +kernel
theorem d_R_comes_351 : decode m_R_comes.2.1 351 = .ok (.invokevirtual 233, 3) := by decide +kernel
theorem d_R_comes_354 : decode m_R_comes.2.1 354 = .ok (.goto 101, 3) := by decide +kernel
theorem d_R_comes_357 : decode m_R_comes.2.1 357 = .ok (.aload_n 0, 1) := by decide +kernel
theorem d_R_comes_358 : decode m_R_comes.2.1 358 = .ok (.getfield 95, 3) := by decide +kernel
theorem d_R_comes_361 : decode m_R_comes.2.1 361 = .ok (.iconst 4, 1) := by decide +kernel
theorem d_R_comes_362 : decode m_R_comes.2.1 362 = .ok (.iload_n 2, 1) := by decide +kernel
theorem d_R_comes_363 : decode m_R_comes.2.1 363 = .ok (.imul, 1) := by decide +kernel
theorem d_R_comes_364 : decode m_R_comes.2.1 364 = .ok (.aload_n 0, 1) := by decide +kernel
theorem d_R_comes_365 : decode m_R_comes.2.1 365 = .ok (.getfield 19, 3) := by decide +kernel
theorem d_R_comes_368 : decode m_R_comes.2.1 368 = .ok (.iload 5, 2) := by decide +kernel
theorem d_R_comes_370 : decode m_R_comes.2.1 370 = .ok (.iaload, 1) := by decide +kernel
theorem d_R_comes_371 : decode m_R_comes.2.1 371 = .ok (.iastore, 1) := by decide +kernel
theorem d_R_comes_372 : decode m_R_comes.2.1 372 = .ok (.aload_n 0, 1) := by decide +kernel
theorem d_R_comes_373 : decode m_R_comes.2.1 373 = .ok (.getfield 98, 3) := by decide +kernel
theorem d_R_comes_376 : decode m_R_comes.2.1 376 = .ok (.iconst 4, 1) := by decide +kernel
theorem d_R_comes_377 : decode m_R_comes.2.1 377 = .ok (.iload_n 2, 1) := by decide +kernel
theorem d_R_comes_378 : decode m_R_comes.2.1 378 = .ok (.imul, 1) := by decide +kernel
theorem d_R_comes_379 : decode m_R_comes.2.1 379 = .ok (.aload_n 0, 1) := by decide +kernel
theorem d_R_comes_380 : decode m_R_comes.2.1 380 = .ok (.getfield 86, 3) := by decide +kernel
theorem d_R_comes_383 : decode m_R_comes.2.1 383 = .ok (.iload_n 2, 1) := by decide +kernel
theorem d_R_comes_384 : decode m_R_comes.2.1 384 = .ok (.iaload, 1) := by decide +kernel
theorem d_R_comes_385 : decode m_R_comes.2.1 385 = .ok (.iastore, 1) := by decide +kernel
theorem d_R_comes_386 : decode m_R_comes.2.1 386 = .ok (.aload_n 0, 1) := by decide +kernel
theorem d_R_comes_387 : decode m_R_comes.2.1 387 = .ok (.getfield 92, 3) := by decide +kernel
theorem d_R_comes_390 : decode m_R_comes.2.1 390 = .ok (.iload_n 2, 1) := by decide +kernel
theorem d_R_comes_391 : decode m_R_comes.2.1 391 = .ok (.iconst 1, 1) := by decide +kernel
theorem d_R_comes_392 : decode m_R_comes.2.1 392 = .ok (.iastore, 1) := by decide +kernel
theorem d_R_comes_393 : decode m_R_comes.2.1 393 = .ok (.aload_n 0, 1) := by decide +kernel
theorem d_R_comes_394 : decode m_R_comes.2.1 394 = .ok (.iload_n 1, 1) := by decide +kernel
theorem d_R_comes_395 : decode m_R_comes.2.1 395 = .ok (.iload_n 2, 1) := by decide +kernel
theorem d_R_comes_396 : decode m_R_comes.2.1 396 = .ok (.invokevirtual 261, 3) := by decide +kernel
theorem d_R_comes_399 : decode m_R_comes.2.1 399 = .ok (.goto 56, 3) := by decide +kernel
theorem d_R_comes_402 : decode m_R_comes.2.1 402 = .ok (.aload_n 0, 1) := by decide +kernel
theorem d_R_comes_403 : decode m_R_comes.2.1 403 = .ok (.getfield 77, 3) := by decide +kernel
theorem d_R_comes_406 : decode m_R_comes.2.1 406 = .ok (.iload_n 2, 1) := by decide +kernel
theorem d_R_comes_407 : decode m_R_comes.2.1 407 = .ok (.iaload, 1) := by decide +kernel
theorem d_R_comes_408 : decode m_R_comes.2.1 408 = .ok (.bipush 6, 2) := by decide +kernel
theorem d_R_comes_410 : decode m_R_comes.2.1 410 = .ok (.if_icmp .ne 39, 3) := by decide +kernel
theorem d_R_comes_413 : decode m_R_comes.2.1 413 = .ok (.aload_n 0, 1) := by decide +kernel
theorem d_R_comes_414 : decode m_R_comes.2.1 414 = .ok (.getfield 95, 3) := by decide +kernel
theorem d_R_comes_417 : decode m_R_comes.2.1 417 = .ok (.iconst 4, 1) := by decide +kernel
theorem d_R_comes_418 : decode m_R_comes.2.1 418 = .ok (.iload_n 2, 1) := by decide +kernel
theorem d_R_comes_419 : decode m_R_comes.2.1 419 = .ok (.imul, 1) := by decide +kernel
theorem d_R_comes_420 : decode m_R_comes.2.1 420 = .ok (.aload_n 0, 1) := by decide +kernel
theorem d_R_comes_421 : decode m_R_comes.2.1 421 = .ok (.getfield 16, 3) := by decide +kernel
theorem d_R_comes_424 : decode m_R_comes.2.1 424 = .ok (.iload 5, 2) := by decide +kernel
theorem d_R_comes_426 : decode m_R_comes.2.1 426 = .ok (.iaload, 1) := by decide +kernel
theorem d_R_comes_427 : decode m_R_comes.2.1 427 = .ok (.iastore, 1) := by decide +kernel
theorem d_R_comes_428 : decode m_R_comes.2.1 428 = .ok (.aload_n 0, 1) := by decide +kernel
theorem d_R_comes_429 : decode m_R_comes.2.1 429 = .ok (.getfield 98, 3) := by decide +kernel
theorem d_R_comes_432 : decode m_R_comes.2.1 432 = .ok (.iconst 4, 1) := by decide +kernel
theorem d_R_comes_433 : decode m_R_comes.2.1 433 = .ok (.iload_n 2, 1) := by decide +kernel
theorem d_R_comes_434 : decode m_R_comes.2.1 434 = .ok (.imul, 1) := by decide +kernel
theorem d_R_comes_435 : decode m_R_comes.2.1 435 = .ok (.aload_n 0, 1) := by decide +kernel
theorem d_R_comes_436 : decode m_R_comes.2.1 436 = .ok (.getfield 86, 3) := by decide +kernel
theorem d_R_comes_439 : decode m_R_comes.2.1 439 = .ok (.iload_n 2, 1) := by decide +kernel
theorem d_R_comes_440 : decode m_R_comes.2.1 440 = .ok (.iaload, 1) := by decide +kernel
theorem d_R_comes_441 : decode m_R_comes.2.1 441 = .ok (.iastore, 1) := by decide +kernel
theorem d_R_comes_442 : decode m_R_comes.2.1 442 = .ok (.aload_n 0, 1) := by decide +kernel
theorem d_R_comes_443 : decode m_R_comes.2.1 443 = .ok (.getfield 92, 3) := by decide +kernel
theorem d_R_comes_446 : decode m_R_comes.2.1 446 = .ok (.iload_n 2, 1) := by decide +kernel
theorem d_R_comes_447 : decode m_R_comes.2.1 447 = .ok (.iconst 1, 1) := by decide +kernel
theorem d_R_comes_448 : decode m_R_comes.2.1 448 = .ok (.iastore, 1) := by decide +kernel
theorem d_R_comes_449 : decode m_R_comes.2.1 449 = .ok (.aload_n 0, 1) := by decide +kernel
theorem d_R_comes_450 : decode m_R_comes.2.1 450 = .ok (.iload_n 1, 1) := by decide +kernel
theorem d_R_comes_451 : decode m_R_comes.2.1 451 = .ok (.iload_n 2, 1) := by decide +kernel
theorem d_R_comes_452 : decode m_R_comes.2.1 452 = .ok (.invokevirtual 261, 3) := by decide +kernel
theorem d_R_comes_455 : decode m_R_comes.2.1 455 = .ok (.return_, 1) := by decide +kernel
theorem d_R_closes_0 : decode m_R_closes.2.1 0 = .ok (.aload_n 0, 1) := by decide +kernel
theorem d_R_closes_1 : decode m_R_closes.2.1 1 = .ok (.getfield 83, 3) := by decide +kernel
theorem d_R_closes_4 : decode m_R_closes.2.1 4 = .ok (.iload_n 2, 1) := by decide +kernel
theorem d_R_closes_5 : decode m_R_closes.2.1 5 = .ok (.bipush 9, 2) := by decide +kernel
theorem d_R_closes_7 : decode m_R_closes.2.1 7 = .ok (.iastore, 1) := by decide +kernel
theorem d_R_closes_8 : decode m_R_closes.2.1 8 = .ok (.aload_n 0, 1) := by decide +kernel
theorem d_R_closes_9 : decode m_R_closes.2.1 9 = .ok (.getfield 104, 3) := by decide +kernel
theorem d_R_closes_12 : decode m_R_closes.2.1 12 = .ok (.iload_n 2, 1) := by decide +kernel
theorem d_R_closes_13 : decode m_R_closes.2.1 13 = .ok (.aload_n 0, 1) := by decide +kernel
theorem d_R_closes_14 : decode m_R_closes.2.1 14 = .ok (.getfield 50, 3) := by decide +kernel
theorem d_R_closes_17 : decode m_R_closes.2.1 17 = .ok (.iload_n 1, 1) := by decide +kernel
theorem d_R_closes_18 : decode m_R_closes.2.1 18 = .ok (.baload, 1) := by decide +kernel
theorem d_R_closes_19 : decode m_R_closes.2.1 19 = .ok (.bastore, 1) := by decide +kernel
theorem d_R_closes_20 : decode m_R_closes.2.1 20 = .ok (.aload_n 0, 1) := by decide +kernel
theorem d_R_closes_21 : decode m_R_closes.2.1 21 = .ok (.getfield 89, 3) := by decide +kernel
theorem d_R_closes_24 : decode m_R_closes.2.1 24 = .ok (.iload_n 2, 1) := by decide +kernel
theorem d_R_closes_25 : decode m_R_closes.2.1 25 = .ok (.aload_n 0, 1) := by decide +kernel
theorem d_R_closes_26 : decode m_R_closes.2.1 26 = .ok (.getfield 47, 3) := by decide +kernel
theorem d_R_closes_29 : decode m_R_closes.2.1 29 = .ok (.iload_n 1, 1) := by decide +kernel
theorem d_R_closes_30 : decode m_R_closes.2.1 30 = .ok (.iaload, 1) := by decide +kernel
theorem d_R_closes_31 : decode m_R_closes.2.1 31 = .ok (.iastore, 1) := by decide +kernel
theorem d_R_closes_32 : decode m_R_closes.2.1 32 = .ok (.aload_n 0, 1) := by decide +kernel
theorem d_R_closes_33 : decode m_R_closes.2.1 33 = .ok (.getfield 50, 3) := by decide +kernel
theorem d_R_closes_36 : decode m_R_closes.2.1 36 = .ok (.iload_n 1, 1) := by decide +kernel
theorem d_R_closes_37 : decode m_R_closes.2.1 37 = .ok (.baload, 1) := by decide +kernel
theorem d_R_closes_38 : decode m_R_closes.2.1 38 = .ok (.ifCond .eq 12, 3) := by decide +kernel
theorem d_R_closes_41 : decode m_R_closes.2.1 41 = .ok (.aload_n 0, 1) := by decide +kernel
theorem d_R_closes_42 : decode m_R_closes.2.1 42 = .ok (.iload_n 1, 1) := by decide +kernel
theorem d_R_closes_43 : decode m_R_closes.2.1 43 = .ok (.bipush 10, 2) := by decide +kernel
theorem d_R_closes_45 : decode m_R_closes.2.1 45 = .ok (.iload_n 2, 1) := by decide +kernel
theorem d_R_closes_46 : decode m_R_closes.2.1 46 = .ok (.iadd, 1) := by decide +kernel
theorem d_R_closes_47 : decode m_R_closes.2.1 47 = .ok (.invokevirtual 252, 3) := by decide +kernel
theorem d_R_closes_50 : decode m_R_closes.2.1 50 = .ok (.aload_n 0, 1) := by decide +kernel
theorem d_R_closes_51 : decode m_R_closes.2.1 51 = .ok (.iload_n 1, 1) := by decide +kernel
theorem d_R_closes_52 : decode m_R_closes.2.1 52 = .ok (.iload_n 2, 1) := by decide +kernel
theorem d_R_closes_53 : decode m_R_closes.2.1 53 = .ok (.invokevirtual 258, 3) := by decide +kernel
theorem d_R_closes_56 : decode m_R_closes.2.1 56 = .ok (.return_, 1) := by decide +kernel
theorem d_R_close_0 : decode m_R_close.2.1 0 = .ok (.aload_n 0, 1) := by decide +kernel
theorem d_R_close_1 : decode m_R_close.2.1 1 = .ok (.getfield 92, 3) := by decide +kernel
theorem d_R_close_4 : decode m_R_close.2.1 4 = .ok (.iload_n 2, 1) := by decide +kernel
theorem d_R_close_5 : decode m_R_close.2.1 5 = .ok (.iaload, 1) := by decide +kernel
theorem d_R_close_6 : decode m_R_close.2.1 6 = .ok (.ifCond .le 44, 3) := by decide +kernel
theorem d_R_close_9 : decode m_R_close.2.1 9 = .ok (.iconst 4, 1) := by decide +kernel
theorem d_R_close_10 : decode m_R_close.2.1 10 = .ok (.iload_n 2, 1) := by decide +kernel
theorem d_R_close_11 : decode m_R_close.2.1 11 = .ok (.imul, 1) := by decide +kernel
theorem d_R_close_12 : decode m_R_close.2.1 12 = .ok (.aload_n 0, 1) := by decide +kernel
theorem d_R_close_13 : decode m_R_close.2.1 13 = .ok (.getfield 92, 3) := by decide +kernel
theorem d_R_close_16 : decode m_R_close.2.1 16 = .ok (.iload_n 2, 1) := by decide +kernel
theorem d_R_close_17 : decode m_R_close.2.1 17 = .ok (.dup2, 1) := by decide +kernel
theorem d_R_close_18 : decode m_R_close.2.1 18 = .ok (.iaload, 1) := by decide +kernel
theorem d_R_close_19 : decode m_R_close.2.1 19 = .ok (.iconst 1, 1) := by decide +kernel
theorem d_R_close_20 : decode m_R_close.2.1 20 = .ok (.isub, 1) := by decide +kernel
theorem d_R_close_21 : decode m_R_close.2.1 21 = .ok (.dup_x2, 1) := by decide +kernel
theorem d_R_close_22 : decode m_R_close.2.1 22 = .ok (.iastore, 1) := by decide +kernel
theorem d_R_close_23 : decode m_R_close.2.1 23 = .ok (.iadd, 1) := by decide +kernel
theorem d_R_close_24 : decode m_R_close.2.1 24 = .ok (.istore_n 3, 1) := by decide +kernel
theorem d_R_close_25 : decode m_R_close.2.1 25 = .ok (.aload_n 0, 1) := by decide +kernel
theorem d_R_close_26 : decode m_R_close.2.1 26 = .ok (.getfield 37, 3) := by decide +kernel
theorem d_R_close_29 : decode m_R_close.2.1 29 = .ok (.iload_n 1, 1) := by decide +kernel
theorem d_R_close_30 : decode m_R_close.2.1 30 = .ok (.iconst 1, 1) := by decide +kernel
theorem d_R_close_31 : decode m_R_close.2.1 31 = .ok (.bastore, 1) := by decide +kernel
theorem d_R_close_32 : decode m_R_close.2.1 32 = .ok (.aload_n 0, 1) := by decide +kernel
theorem d_R_close_33 : decode m_R_close.2.1 33 = .ok (.iload_n 1, 1) := by decide +kernel
theorem d_R_close_34 : decode m_R_close.2.1 34 = .ok (.aload_n 0, 1) := by decide +kernel
theorem d_R_close_35 : decode m_R_close.2.1 35 = .ok (.getfield 95, 3) := by decide +kernel
theorem d_R_close_38 : decode m_R_close.2.1 38 = .ok (.iload_n 3, 1) := by decide +kernel
theorem d_R_close_39 : decode m_R_close.2.1 39 = .ok (.iaload, 1) := by decide +kernel
theorem d_R_close_40 : decode m_R_close.2.1 40 = .ok (.aload_n 0, 1) := by decide +kernel
theorem d_R_close_41 : decode m_R_close.2.1 41 = .ok (.getfield 98, 3) := by decide +kernel
theorem d_R_close_44 : decode m_R_close.2.1 44 = .ok (.iload_n 3, 1) := by decide +kernel
theorem d_R_close_45 : decode m_R_close.2.1 45 = .ok (.iaload, 1) := by decide +kernel
theorem d_R_close_46 : decode m_R_close.2.1 46 = .ok (.invokevirtual 233, 3) := by decide +kernel
theorem d_R_close_49 : decode m_R_close.2.1 49 = .ok (.return_, 1) := by decide +kernel
theorem d_R_close_50 : decode m_R_close.2.1 50 = .ok (.aload_n 0, 1) := by decide +kernel
theorem d_R_close_51 : decode m_R_close.2.1 51 = .ok (.getfield 74, 3) := by decide +kernel
theorem d_R_close_54 : decode m_R_close.2.1 54 = .ok (.iload_n 1, 1) := by decide +kernel
theorem d_R_close_55 : decode m_R_close.2.1 55 = .ok (.dup2, 1) := by decide +kernel
theorem d_R_close_56 : decode m_R_close.2.1 56 = .ok (.iaload, 1) := by decide +kernel
theorem d_R_close_57 : decode m_R_close.2.1 57 = .ok (.iconst 1, 1) := by decide +kernel
theorem d_R_close_58 : decode m_R_close.2.1 58 = .ok (.isub, 1) := by decide +kernel
theorem d_R_close_59 : decode m_R_close.2.1 59 = .ok (.iastore, 1) := by decide +kernel
theorem d_R_close_60 : decode m_R_close.2.1 60 = .ok (.aload_n 0, 1) := by decide +kernel
theorem d_R_close_61 : decode m_R_close.2.1 61 = .ok (.getfield 37, 3) := by decide +kernel
theorem d_R_close_64 : decode m_R_close.2.1 64 = .ok (.iload_n 1, 1) := by decide +kernel
theorem d_R_close_65 : decode m_R_close.2.1 65 = .ok (.aload_n 0, 1) := by decide +kernel
theorem d_R_close_66 : decode m_R_close.2.1 66 = .ok (.getfield 101, 3) := by decide +kernel
theorem d_R_close_69 : decode m_R_close.2.1 69 = .ok (.iload_n 2, 1) := by decide +kernel
theorem d_R_close_70 : decode m_R_close.2.1 70 = .ok (.baload, 1) := by decide +kernel
theorem d_R_close_71 : decode m_R_close.2.1 71 = .ok (.bastore, 1) := by decide +kernel
theorem d_R_close_72 : decode m_R_close.2.1 72 = .ok (.aload_n 0, 1) := by decide +kernel
theorem d_R_close_73 : decode m_R_close.2.1 73 = .ok (.iload_n 1, 1) := by decide +kernel
theorem d_R_close_74 : decode m_R_close.2.1 74 = .ok (.aload_n 0, 1) := by decide +kernel
theorem d_R_close_75 : decode m_R_close.2.1 75 = .ok (.getfield 89, 3) := by decide +kernel
theorem d_R_close_78 : decode m_R_close.2.1 78 = .ok (.iload_n 2, 1) := by decide +kernel
theorem d_R_close_79 : decode m_R_close.2.1 79 = .ok (.iaload, 1) := by decide +kernel
theorem d_R_close_80 : decode m_R_close.2.1 80 = .ok (.invokevirtual 198, 3) := by decide +kernel
theorem d_R_close_83 : decode m_R_close.2.1 83 = .ok (.aload_n 0, 1) := by decide +kernel
theorem d_R_close_84 : decode m_R_close.2.1 84 = .ok (.getfield 50, 3) := by decide +kernel
theorem d_R_close_87 : decode m_R_close.2.1 87 = .ok (.iload_n 1, 1) := by decide +kernel
theorem d_R_close_88 : decode m_R_close.2.1 88 = .ok (.aload_n 0, 1) := by decide +kernel
theorem d_R_close_89 : decode m_R_close.2.1 89 = .ok (.getfield 104, 3) := by decide +kernel
theorem d_R_close_92 : decode m_R_close.2.1 92 = .ok (.iload_n 2, 1) := by decide +kernel
theorem d_R_close_93 : decode m_R_close.2.1 93 = .ok (.baload, 1) := by decide +kernel
theorem d_R_close_94 : decode m_R_close.2.1 94 = .ok (.bastore, 1) := by decide +kernel
theorem d_R_close_95 : decode m_R_close.2.1 95 = .ok (.aload_n 0, 1) := by decide +kernel
theorem d_R_close_96 : decode m_R_close.2.1 96 = .ok (.getfield 104, 3) := by decide +kernel
theorem d_R_close_99 : decode m_R_close.2.1 99 = .ok (.iload_n 2, 1) := by decide +kernel
theorem d_R_close_100 : decode m_R_close.2.1 100 = .ok (.baload, 1) := by decide +kernel
theorem d_R_close_101 : decode m_R_close.2.1 101 = .ok (.ifCond .eq 12, 3) := by decide +kernel
theorem d_R_close_104 : decode m_R_close.2.1 104 = .ok (.aload_n 0, 1) := by decide +kernel
theorem d_R_close_105 : decode m_R_close.2.1 105 = .ok (.bipush 10, 2) := by decide +kernel
theorem d_R_close_107 : decode m_R_close.2.1 107 = .ok (.iload_n 2, 1) := by decide +kernel
theorem d_R_close_108 : decode m_R_close.2.1 108 = .ok (.iadd, 1) := by decide +kernel
theorem d_R_close_109 : decode m_R_close.2.1 109 = .ok (.iload_n 1, 1) := by decide +kernel
theorem d_R_close_110 : decode m_R_close.2.1 110 = .ok (.invokevirtual 252, 3) := by decide +kernel
theorem d_R_close_113 : decode m_R_close.2.1 113 = .ok (.return_, 1) := by decide +kernel
theorem d_R_ends_0 : decode m_R_ends.2.1 0 = .ok (.aload_n 0, 1) := by decide +kernel
theorem d_R_ends_1 : decode m_R_ends.2.1 1 = .ok (.getfield 22, 3) := by decide +kernel
theorem d_R_ends_4 : decode m_R_ends.2.1 4 = .ok (.iload_n 1, 1) := by decide +kernel
theorem d_R_ends_5 : decode m_R_ends.2.1 5 = .ok (.iconst 2, 1) := by decide +kernel
theorem d_R_ends_6 : decode m_R_ends.2.1 6 = .ok (.iastore, 1) := by decide +kernel
theorem d_R_ends_7 : decode m_R_ends.2.1 7 = .ok (.aload_n 0, 1) := by decide +kernel
theorem d_R_ends_8 : decode m_R_ends.2.1 8 = .ok (.getfield 37, 3) := by decide +kernel
theorem d_R_ends_11 : decode m_R_ends.2.1 11 = .ok (.iload_n 1, 1) := by decide +kernel
theorem d_R_ends_12 : decode m_R_ends.2.1 12 = .ok (.iconst 0, 1) := by decide +kernel
theorem d_R_ends_13 : decode m_R_ends.2.1 13 = .ok (.bastore, 1) := by decide +kernel
theorem d_R_ends_14 : decode m_R_ends.2.1 14 = .ok (.iconst 0, 1) := by decide +kernel
theorem d_R_ends_15 : decode m_R_ends.2.1 15 = .ok (.istore_n 2, 1) := by decide +kernel
theorem d_R_ends_16 : decode m_R_ends.2.1 16 = .ok (.iload_n 2, 1) := by decide +kernel
theorem d_R_ends_17 : decode m_R_ends.2.1 17 = .ok (.aload_n 0, 1) := by decide +kernel
theorem d_R_ends_18 : decode m_R_ends.2.1 18 = .ok (.getfield 153, 3) := by decide +kernel
theorem d_R_ends_21 : decode m_R_ends.2.1 21 = .ok (.if_icmp .ge 25, 3) := by decide +kernel
theorem d_R_ends_24 : decode m_R_ends.2.1 24 = .ok (.aload_n 0, 1) := by decide +kernel
theorem d_R_ends_25 : decode m_R_ends.2.1 25 = .ok (.getfield 22, 3) := by decide +kernel
theorem d_R_ends_28 : decode m_R_ends.2.1 28 = .ok (.iload_n 2, 1) := by decide +kernel
theorem d_R_ends_29 : decode m_R_ends.2.1 29 = .ok (.iaload, 1) := by decide +kernel
theorem d_R_ends_30 : decode m_R_ends.2.1 30 = .ok (.iconst 1, 1) := by decide +kernel
theorem d_R_ends_31 : decode m_R_ends.2.1 31 = .ok (.if_icmp .ne 9, 3) := by decide +kernel
theorem d_R_ends_34 : decode m_R_ends.2.1 34 = .ok (.aload_n 0, 1) := by decide +kernel
theorem d_R_ends_35 : decode m_R_ends.2.1 35 = .ok (.iload_n 2, 1) := by decide +kernel
theorem d_R_ends_36 : decode m_R_ends.2.1 36 = .ok (.iload_n 1, 1) := by decide +kernel
theorem d_R_ends_37 : decode m_R_ends.2.1 37 = .ok (.invokevirtual 264, 3) := by decide +kernel
theorem d_R_ends_40 : decode m_R_ends.2.1 40 = .ok (.iinc 2 1, 3) := by decide +kernel
theorem d_R_ends_43 : decode m_R_ends.2.1 43 = .ok (.goto (-27), 3) := by decide +kernel
theorem d_R_ends_46 : decode m_R_ends.2.1 46 = .ok (.iconst 0, 1) := by decide +kernel
theorem d_R_ends_47 : decode m_R_ends.2.1 47 = .ok (.istore_n 2, 1) := by decide +kernel
theorem d_R_ends_48 : decode m_R_ends.2.1 48 = .ok (.iload_n 2, 1) := by decide +kernel
theorem d_R_ends_49 : decode m_R_ends.2.1 49 = .ok (.aload_n 0, 1) := by decide +kernel
theorem d_R_ends_50 : decode m_R_ends.2.1 50 = .ok (.getfield 153, 3) := by decide +kernel
theorem d_R_ends_53 : decode m_R_ends.2.1 53 = .ok (.if_icmp .ge 25, 3) := by decide +kernel
theorem d_R_ends_56 : decode m_R_ends.2.1 56 = .ok (.aload_n 0, 1) := by decide +kernel
theorem d_R_ends_57 : decode m_R_ends.2.1 57 = .ok (.getfield 31, 3) := by decide +kernel
theorem d_R_ends_60 : decode m_R_ends.2.1 60 = .ok (.iload_n 2, 1) := by decide +kernel
theorem d_R_ends_61 : decode m_R_ends.2.1 61 = .ok (.iaload, 1) := by decide +kernel
theorem d_R_ends_62 : decode m_R_ends.2.1 62 = .ok (.iload_n 1, 1) := by decide +kernel
theorem d_R_ends_63 : decode m_R_ends.2.1 63 = .ok (.if_icmp .ne 9, 3) := by decide +kernel
theorem d_R_ends_66 : decode m_R_ends.2.1 66 = .ok (.aload_n 0, 1) := by decide +kernel
theorem d_R_ends_67 : decode m_R_ends.2.1 67 = .ok (.iload_n 2, 1) := by decide +kernel
theorem d_R_ends_68 : decode m_R_ends.2.1 68 = .ok (.iload_n 1, 1) := by decide +kernel
theorem d_R_ends_69 : decode m_R_ends.2.1 69 = .ok (.invokevirtual 190, 3) := by decide +kernel
theorem d_R_ends_72 : decode m_R_ends.2.1 72 = .ok (.iinc 2 1, 3) := by decide +kernel
theorem d_R_ends_75 : decode m_R_ends.2.1 75 = .ok (.goto (-27), 3) := by decide +kernel
theorem d_R_ends_78 : decode m_R_ends.2.1 78 = .ok (.return_, 1) := by decide +kernel
theorem d_R_hears_0 : decode m_R_hears.2.1 0 = .ok (.aload_n 0, 1) := by decide +kernel
theorem d_R_hears_1 : decode m_R_hears.2.1 1 = .ok (.getfield 53, 3) := by decide +kernel
theorem d_R_hears_4 : decode m_R_hears.2.1 4 = .ok (.iload_n 1, 1) := by decide +kernel
theorem d_R_hears_5 : decode m_R_hears.2.1 5 = .ok (.iaload, 1) := by decide +kernel
theorem d_R_hears_6 : decode m_R_hears.2.1 6 = .ok (.iconst 1, 1) := by decide +kernel
theorem d_R_hears_7 : decode m_R_hears.2.1 7 = .ok (.if_icmp .ne 27, 3) := by decide +kernel
theorem d_R_hears_10 : decode m_R_hears.2.1 10 = .ok (.aload_n 0, 1) := by decide +kernel
theorem d_R_hears_11 : decode m_R_hears.2.1 11 = .ok (.getfield 56, 3) := by decide +kernel
theorem d_R_hears_14 : decode m_R_hears.2.1 14 = .ok (.iload_n 1, 1) := by decide +kernel
theorem d_R_hears_15 : decode m_R_hears.2.1 15 = .ok (.iaload, 1) := by decide +kernel
theorem d_R_hears_16 : decode m_R_hears.2.1 16 = .ok (.iload_n 2, 1) := by decide +kernel
theorem d_R_hears_17 : decode m_R_hears.2.1 17 = .ok (.if_icmp .ne 17, 3) := by decide +kernel
theorem d_R_hears_20 : decode m_R_hears.2.1 20 = .ok (.aload_n 0, 1) := by decide +kernel
theorem d_R_hears_21 : decode m_R_hears.2.1 21 = .ok (.iload_n 1, 1) := by decide +kernel
theorem d_R_hears_22 : decode m_R_hears.2.1 22 = .ok (.iload_n 2, 1) := by decide +kernel
theorem d_R_hears_23 : decode m_R_hears.2.1 23 = .ok (.invokevirtual 249, 3) := by decide +kernel
theorem d_R_hears_26 : decode m_R_hears.2.1 26 = .ok (.aload_n 0, 1) := by decide +kernel
theorem d_R_hears_27 : decode m_R_hears.2.1 27 = .ok (.iload_n 1, 1) := by decide +kernel
theorem d_R_hears_28 : decode m_R_hears.2.1 28 = .ok (.invokevirtual 186, 3) := by decide +kernel
theorem d_R_hears_31 : decode m_R_hears.2.1 31 = .ok (.goto 200, 3) := by decide +kernel
theorem d_R_hears_34 : decode m_R_hears.2.1 34 = .ok (.aload_n 0, 1) := by decide +kernel
theorem d_R_hears_35 : decode m_R_hears.2.1 35 = .ok (.getfield 53, 3) := by decide +kernel
theorem d_R_hears_38 : decode m_R_hears.2.1 38 = .ok (.iload_n 1, 1) := by decide +kernel
theorem d_R_hears_39 : decode m_R_hears.2.1 39 = .ok (.iaload, 1) := by decide +kernel
theorem d_R_hears_40 : decode m_R_hears.2.1 40 = .ok (.iconst 2, 1) := by decide +kernel
theorem d_R_hears_41 : decode m_R_hears.2.1 41 = .ok (.if_icmp .ne 27, 3) := by decide +kernel
theorem d_R_hears_44 : decode m_R_hears.2.1 44 = .ok (.aload_n 0, 1) := by decide +kernel
theorem d_R_hears_45 : decode m_R_hears.2.1 45 = .ok (.getfield 56, 3) := by decide +kernel
theorem d_R_hears_48 : decode m_R_hears.2.1 48 = .ok (.iload_n 1, 1) := by decide +kernel
theorem d_R_hears_49 : decode m_R_hears.2.1 49 = .ok (.iaload, 1) := by decide +kernel
theorem d_R_hears_50 : decode m_R_hears.2.1 50 = .ok (.iload_n 2, 1) := by decide +kernel
theorem d_R_hears_51 : decode m_R_hears.2.1 51 = .ok (.if_icmp .ne 17, 3) := by decide +kernel
theorem d_R_hears_54 : decode m_R_hears.2.1 54 = .ok (.aload_n 0, 1) := by decide +kernel
theorem d_R_hears_55 : decode m_R_hears.2.1 55 = .ok (.iload_n 1, 1) := by decide +kernel
theorem d_R_hears_56 : decode m_R_hears.2.1 56 = .ok (.iconst 0, 1) := by decide +kernel
theorem d_R_hears_57 : decode m_R_hears.2.1 57 = .ok (.invokevirtual 198, 3) := by decide +kernel
theorem d_R_hears_60 : decode m_R_hears.2.1 60 = .ok (.aload_n 0, 1) := by decide +kernel
theorem d_R_hears_61 : decode m_R_hears.2.1 61 = .ok (.iload_n 1, 1) := by decide +kernel
theorem d_R_hears_62 : decode m_R_hears.2.1 62 = .ok (.invokevirtual 186, 3) := by decide +kernel
theorem d_R_hears_65 : decode m_R_hears.2.1 65 = .ok (.goto 166, 3) := by decide +kernel
theorem d_R_hears_68 : decode m_R_hears.2.1 68 = .ok (.aload_n 0, 1) := by decide +kernel
theorem d_R_hears_69 : decode m_R_hears.2.1 69 = .ok (.getfield 53, 3) := by decide +kernel
theorem d_R_hears_72 : decode m_R_hears.2.1 72 = .ok (.iload_n 1, 1) := by decide +kernel
theorem d_R_hears_73 : decode m_R_hears.2.1 73 = .ok (.iaload, 1) := by decide +kernel
theorem d_R_hears_74 : decode m_R_hears.2.1 74 = .ok (.iconst 3, 1) := by decide +kernel
theorem d_R_hears_75 : decode m_R_hears.2.1 75 = .ok (.if_icmp .ne 156, 3) := by decide +kernel
theorem d_R_hears_78 : decode m_R_hears.2.1 78 = .ok (.aload_n 0, 1) := by decide +kernel
theorem d_R_hears_79 : decode m_R_hears.2.1 79 = .ok (.getfield 65, 3) := by decide +kernel
theorem d_R_hears_82 : decode m_R_hears.2.1 82 = .ok (.iload_n 1, 1) := by decide +kernel
theorem d_R_hears_83 : decode m_R_hears.2.1 83 = .ok (.iaload, 1) := by decide +kernel
theorem d_R_hears_84 : decode m_R_hears.2.1 84 = .ok (.iload_n 2, 1) := by decide +kernel
theorem d_R_hears_85 : decode m_R_hears.2.1 85 = .ok (.if_icmp .eq 13, 3) := by decide +kernel
theorem d_R_hears_88 : decode m_R_hears.2.1 88 = .ok (.aload_n 0, 1) := by decide +kernel
theorem d_R_hears_89 : decode m_R_hears.2.1 89 = .ok (.getfield 68, 3) := by decide +kernel
theorem d_R_hears_92 : decode m_R_hears.2.1 92 = .ok (.iload_n 1, 1) := by decide +kernel
theorem d_R_hears_93 : decode m_R_hears.2.1 93 = .ok (.iaload, 1) := by decide +kernel
theorem d_R_hears_94 : decode m_R_hears.2.1 94 = .ok (.iload_n 2, 1) := by decide +kernel
theorem d_R_hears_95 : decode m_R_hears.2.1 95 = .ok (.if_icmp .ne 136, 3) := by decide +kernel
theorem d_R_hears_98 : decode m_R_hears.2.1 98 = .ok (.aload_n 0, 1) := by decide +kernel
theorem d_R_hears_99 : decode m_R_hears.2.1 99 = .ok (.getfield 65, 3) := by decide +kernel
theorem d_R_hears_102 : decode m_R_hears.2.1 102 = .ok (.iload_n 1, 1) := by decide +kernel
theorem d_R_hears_103 : decode m_R_hears.2.1 103 = .ok (.iaload, 1) := by decide +kernel
theorem d_R_hears_104 : decode m_R_hears.2.1 104 = .ok (.iload_n 2, 1) := by decide +kernel
theorem d_R_hears_105 : decode m_R_hears.2.1 105 = .ok (.if_icmp .ne 12, 3) := by decide +kernel
theorem d_R_hears_108 : decode m_R_hears.2.1 108 = .ok (.aload_n 0, 1) := by decide +kernel
theorem d_R_hears_109 : decode m_R_hears.2.1 109 = .ok (.getfield 68, 3) := by decide +kernel
theorem d_R_hears_112 : decode m_R_hears.2.1 112 = .ok (.iload_n 1, 1) := by decide +kernel
theorem d_R_hears_113 : decode m_R_hears.2.1 113 = .ok (.iaload, 1) := by decide +kernel
theorem d_R_hears_114 : decode m_R_hears.2.1 114 = .ok (.goto 9, 3) := by decide +kernel
theorem d_R_hears_117 : decode m_R_hears.2.1 117 = .ok (.aload_n 0, 1) := by decide +kernel
theorem d_R_hears_118 : decode m_R_hears.2.1 118 = .ok (.getfield 65, 3) := by decide +kernel
theorem d_R_hears_121 : decode m_R_hears.2.1 121 = .ok (.iload_n 1, 1) := by decide +kernel
theorem d_R_hears_122 : decode m_R_hears.2.1 122 = .ok (.iaload, 1) := by decide +kernel
theorem d_R_hears_123 : decode m_R_hears.2.1 123 = .ok (.istore_n 3, 1) := by decide +kernel
theorem d_R_hears_124 : decode m_R_hears.2.1 124 = .ok (.aload_n 0, 1) := by decide +kernel
theorem d_R_hears_125 : decode m_R_hears.2.1 125 = .ok (.getfield 50, 3) := by decide +kernel
theorem d_R_hears_128 : decode m_R_hears.2.1 128 = .ok (.iload_n 2, 1) := by decide +kernel
theorem d_R_hears_129 : decode m_R_hears.2.1 129 = .ok (.baload, 1) := by decide +kernel
theorem d_R_hears_130 : decode m_R_hears.2.1 130 = .ok (.ifCond .ne 19, 3) := by decide +kernel
theorem d_R_hears_133 : decode m_R_hears.2.1 133 = .ok (.aload_n 0, 1) := by decide +kernel
theorem d_R_hears_134 : decode m_R_hears.2.1 134 = .ok (.getfield 71, 3) := by decide +kernel
theorem d_R_hears_137 : decode m_R_hears.2.1 137 = .ok (.iload_n 1, 1) := by decide +kernel
theorem d_R_hears_138 : decode m_R_hears.2.1 138 = .ok (.iaload, 1) := by decide +kernel
theorem d_R_hears_139 : decode m_R_hears.2.1 139 = .ok (.ifCond .ge 10, 3) := by decide +kernel
theorem d_R_hears_142 : decode m_R_hears.2.1 142 = .ok (.aload_n 0, 1) := by decide +kernel
theorem d_R_hears_143 : decode m_R_hears.2.1 143 = .ok (.getfield 71, 3) := by decide +kernel
theorem d_R_hears_146 : decode m_R_hears.2.1 146 = .ok (.iload_n 1, 1) := by decide +kernel
theorem d_R_hears_147 : decode m_R_hears.2.1 147 = .ok (.iload_n 2, 1) := by decide +kernel
theorem d_R_hears_148 : decode m_R_hears.2.1 148 = .ok (.iastore, 1) := by decide +kernel
theorem d_R_hears_149 : decode m_R_hears.2.1 149 = .ok (.aload_n 0, 1) := by decide +kernel
theorem d_R_hears_150 : decode m_R_hears.2.1 150 = .ok (.getfield 22, 3) := by decide +kernel
theorem d_R_hears_153 : decode m_R_hears.2.1 153 = .ok (.iload_n 3, 1) := by decide +kernel
theorem d_R_hears_154 : decode m_R_hears.2.1 154 = .ok (.iaload, 1) := by decide +kernel
theorem d_R_hears_155 : decode m_R_hears.2.1 155 = .ok (.iconst 2, 1) := by decide +kernel
theorem d_R_hears_156 : decode m_R_hears.2.1 156 = .ok (.if_icmp .eq 19, 3) := by decide +kernel
theorem d_R_hears_159 : decode m_R_hears.2.1 159 = .ok (.aload_n 0, 1) := by decide +kernel
theorem d_R_hears_160 : decode m_R_hears.2.1 160 = .ok (.getfield 50, 3) := by decide +kernel
theorem d_R_hears_163 : decode m_R_hears.2.1 163 = .ok (.iload_n 2, 1) := by decide +kernel
theorem d_R_hears_164 : decode m_R_hears.2.1 164 = .ok (.baload, 1) := by decide +kernel
theorem d_R_hears_165 : decode m_R_hears.2.1 165 = .ok (.ifCond .ne 9, 3) := by decide +kernel
theorem d_R_hears_168 : decode m_R_hears.2.1 168 = .ok (.aload_n 0, 1) := by decide +kernel
theorem d_R_hears_169 : decode m_R_hears.2.1 169 = .ok (.iload_n 3, 1) := by decide +kernel
theorem d_R_hears_170 : decode m_R_hears.2.1 170 = .ok (.iload_n 1, 1) := by decide +kernel
theorem d_R_hears_171 : decode m_R_hears.2.1 171 = .ok (.invokevirtual 190, 3) := by decide +kernel
theorem d_R_hears_174 : decode m_R_hears.2.1 174 = .ok (.return_, 1) := by decide +kernel
theorem d_R_hears_175 : decode m_R_hears.2.1 175 = .ok (.aload_n 0, 1) := by decide +kernel
theorem d_R_hears_176 : decode m_R_hears.2.1 176 = .ok (.getfield 71, 3) := by decide +kernel
theorem d_R_hears_179 : decode m_R_hears.2.1 179 = .ok (.iload_n 1, 1) := by decide +kernel
theorem d_R_hears_180 : decode m_R_hears.2.1 180 = .ok (.iaload, 1) := by decide +kernel
theorem d_R_hears_181 : decode m_R_hears.2.1 181 = .ok (.ifCond .lt 22, 3) := by decide +kernel
theorem d_R_hears_184 : decode m_R_hears.2.1 184 = .ok (.aload_n 0, 1) := by decide +kernel
theorem d_R_hears_185 : decode m_R_hears.2.1 185 = .ok (.iload_n 1, 1) := by decide +kernel
theorem d_R_hears_186 : decode m_R_hears.2.1 186 = .ok (.aload_n 0, 1) := by decide +kernel
theorem d_R_hears_187 : decode m_R_hears.2.1 187 = .ok (.getfield 47, 3) := by decide +kernel
theorem d_R_hears_190 : decode m_R_hears.2.1 190 = .ok (.aload_n 0, 1) := by decide +kernel
theorem d_R_hears_191 : decode m_R_hears.2.1 191 = .ok (.getfield 71, 3) := by decide +kernel
theorem d_R_hears_194 : decode m_R_hears.2.1 194 = .ok (.iload_n 1, 1) := by decide +kernel
theorem d_R_hears_195 : decode m_R_hears.2.1 195 = .ok (.iaload, 1) := by decide +kernel
theorem d_R_hears_196 : decode m_R_hears.2.1 196 = .ok (.iaload, 1) := by decide +kernel
theorem d_R_hears_197 : decode m_R_hears.2.1 197 = .ok (.invokevirtual 198, 3) := by decide +kernel
theorem d_R_hears_200 : decode m_R_hears.2.1 200 = .ok (.goto 26, 3) := by decide +kernel
theorem d_R_hears_203 : decode m_R_hears.2.1 203 = .ok (.aload_n 0, 1) := by decide +kernel
theorem d_R_hears_204 : decode m_R_hears.2.1 204 = .ok (.iload_n 1, 1) := by decide +kernel
theorem d_R_hears_205 : decode m_R_hears.2.1 205 = .ok (.aload_n 0, 1) := by decide +kernel
theorem d_R_hears_206 : decode m_R_hears.2.1 206 = .ok (.getfield 65, 3) := by decide +kernel
theorem d_R_hears_209 : decode m_R_hears.2.1 209 = .ok (.iload_n 1, 1) := by decide +kernel
theorem d_R_hears_210 : decode m_R_hears.2.1 210 = .ok (.iaload, 1) := by decide +kernel
theorem d_R_hears_211 : decode m_R_hears.2.1 211 = .ok (.invokevirtual 249, 3) := by decide +kernel
theorem d_R_hears_214 : decode m_R_hears.2.1 214 = .ok (.aload_n 0, 1) := by decide +kernel
theorem d_R_hears_215 : decode m_R_hears.2.1 215 = .ok (.iload_n 1, 1) := by decide +kernel
theorem d_R_hears_216 : decode m_R_hears.2.1 216 = .ok (.aload_n 0, 1) := by decide +kernel
theorem d_R_hears_217 : decode m_R_hears.2.1 217 = .ok (.getfield 68, 3) := by decide +kernel
theorem d_R_hears_220 : decode m_R_hears.2.1 220 = .ok (.iload_n 1, 1) := by decide +kernel
theorem d_R_hears_221 : decode m_R_hears.2.1 221 = .ok (.iaload, 1) := by decide +kernel
theorem d_R_hears_222 : decode m_R_hears.2.1 222 = .ok (.iconst 5, 1) := by decide +kernel
theorem d_R_hears_223 : decode m_R_hears.2.1 223 = .ok (.invokevirtual 255, 3) := by decide +kernel
theorem d_R_hears_226 : decode m_R_hears.2.1 226 = .ok (.aload_n 0, 1) := by decide +kernel
theorem d_R_hears_227 : decode m_R_hears.2.1 227 = .ok (.iload_n 1, 1) := by decide +kernel
theorem d_R_hears_228 : decode m_R_hears.2.1 228 = .ok (.invokevirtual 186, 3) := by decide +kernel
theorem d_R_hears_231 : decode m_R_hears.2.1 231 = .ok (.return_, 1) := by decide +kernel
theorem d_R_stands_0 : decode m_R_stands.2.1 0 = .ok (.iconst 1, 1) := by decide +kernel
theorem d_R_stands_1 : decode m_R_stands.2.1 1 = .ok (.istore_n 1, 1) := by decide +kernel
theorem d_R_stands_2 : decode m_R_stands.2.1 2 = .ok (.iconst 0, 1) := by decide +kernel
theorem d_R_stands_3 : decode m_R_stands.2.1 3 = .ok (.istore_n 2, 1) := by decide +kernel
theorem d_R_stands_4 : decode m_R_stands.2.1 4 = .ok (.iconst 0, 1) := by decide +kernel
theorem d_R_stands_5 : decode m_R_stands.2.1 5 = .ok (.istore_n 3, 1) := by decide +kernel
theorem d_R_stands_6 : decode m_R_stands.2.1 6 = .ok (.iload_n 3, 1) := by decide +kernel
theorem d_R_stands_7 : decode m_R_stands.2.1 7 = .ok (.aload_n 0, 1) := by decide +kernel
theorem d_R_stands_8 : decode m_R_stands.2.1 8 = .ok (.getfield 153, 3) := by decide +kernel
theorem d_R_stands_11 : decode m_R_stands.2.1 11 = .ok (.if_icmp .ge 64, 3) := by decide +kernel
theorem d_R_stands_14 : decode m_R_stands.2.1 14 = .ok (.iload_n 1, 1) := by decide +kernel
theorem d_R_stands_15 : decode m_R_stands.2.1 15 = .ok (.aload_n 0, 1) := by decide +kernel
theorem d_R_stands_16 : decode m_R_stands.2.1 16 = .ok (.getfield 22, 3) := by decide +kernel
theorem d_R_stands_19 : decode m_R_stands.2.1 19 = .ok (.iload_n 3, 1) := by decide +kernel
theorem d_R_stands_20 : decode m_R_stands.2.1 20 = .ok (.iaload, 1) := by decide +kernel
theorem d_R_stands_21 : decode m_R_stands.2.1 21 = .ok (.iconst 2, 1) := by decide +kernel
theorem d_R_stands_22 : decode m_R_stands.2.1 22 = .ok (.if_icmp .ne 7, 3) := by decide +kernel
theorem d_R_stands_25 : decode m_R_stands.2.1 25 = .ok (.iconst 1, 1) := by decide +kernel
theorem d_R_stands_26 : decode m_R_stands.2.1 26 = .ok (.goto 4, 3) := by decide +kernel
theorem d_R_stands_29 : decode m_R_stands.2.1 29 = .ok (.iconst 0, 1) := by decide +kernel
theorem d_R_stands_30 : decode m_R_stands.2.1 30 = .ok (.iand, 1) := by decide +kernel
theorem d_R_stands_31 : decode m_R_stands.2.1 31 = .ok (.istore_n 1, 1) := by decide +kernel
theorem d_R_stands_32 : decode m_R_stands.2.1 32 = .ok (.iload_n 2, 1) := by decide +kernel
theorem d_R_stands_33 : decode m_R_stands.2.1 33 = .ok (.aload_n 0, 1) := by decide +kernel
theorem d_R_stands_34 : decode m_R_stands.2.1 34 = .ok (.getfield 22, 3) := by decide +kernel
theorem d_R_stands_37 : decode m_R_stands.2.1 37 = .ok (.iload_n 3, 1) := by decide +kernel
theorem d_R_stands_38 : decode m_R_stands.2.1 38 = .ok (.iaload, 1) := by decide +kernel
theorem d_R_stands_39 : decode m_R_stands.2.1 39 = .ok (.ifCond .eq 23, 3) := by decide +kernel
theorem d_R_stands_42 : decode m_R_stands.2.1 42 = .ok (.aload_n 0, 1) := by decide +kernel
theorem d_R_stands_43 : decode m_R_stands.2.1 43 = .ok (.getfield 22, 3) := by decide +kernel
theorem d_R_stands_46 : decode m_R_stands.2.1 46 = .ok (.iload_n 3, 1) := by decide +kernel
theorem d_R_stands_47 : decode m_R_stands.2.1 47 = .ok (.iaload, 1) := by decide +kernel
theorem d_R_stands_48 : decode m_R_stands.2.1 48 = .ok (.iconst 1, 1) := by decide +kernel
theorem d_R_stands_49 : decode m_R_stands.2.1 49 = .ok (.if_icmp .ne 17, 3) := by decide +kernel
theorem d_R_stands_52 : decode m_R_stands.2.1 52 = .ok (.aload_n 0, 1) := by decide +kernel
theorem d_R_stands_53 : decode m_R_stands.2.1 53 = .ok (.getfield 53, 3) := by decide +kernel
theorem d_R_stands_56 : decode m_R_stands.2.1 56 = .ok (.iload_n 3, 1) := by decide +kernel
theorem d_R_stands_57 : decode m_R_stands.2.1 57 = .ok (.iaload, 1) := by decide +kernel
theorem d_R_stands_58 : decode m_R_stands.2.1 58 = .ok (.iconst 4, 1) := by decide +kernel
theorem d_R_stands_59 : decode m_R_stands.2.1 59 = .ok (.if_icmp .ne 7, 3) := by decide +kernel
theorem d_R_stands_62 : decode m_R_stands.2.1 62 = .ok (.iconst 1, 1) := by decide +kernel
theorem d_R_stands_63 : decode m_R_stands.2.1 63 = .ok (.goto 4, 3) := by decide +kernel
theorem d_R_stands_66 : decode m_R_stands.2.1 66 = .ok (.iconst 0, 1) := by decide +kernel
theorem d_R_stands_67 : decode m_R_stands.2.1 67 = .ok (.ior, 1) := by decide +kernel
theorem d_R_stands_68 : decode m_R_stands.2.1 68 = .ok (.istore_n 2, 1) := by decide +kernel
theorem d_R_stands_69 : decode m_R_stands.2.1 69 = .ok (.iinc 3 1, 3) := by decide +kernel
theorem d_R_stands_72 : decode m_R_stands.2.1 72 = .ok (.goto (-66), 3) := by decide +kernel
theorem d_R_stands_75 : decode m_R_stands.2.1 75 = .ok (.iload_n 2, 1) := by decide +kernel
theorem d_R_stands_76 : decode m_R_stands.2.1 76 = .ok (.ifCond .eq 7, 3) := by decide +kernel
theorem d_R_stands_79 : decode m_R_stands.2.1 79 = .ok (.iconst 0, 1) := by decide +kernel
theorem d_R_stands_80 : decode m_R_stands.2.1 80 = .ok (.goto 12, 3) := by decide +kernel
theorem d_R_stands_83 : decode m_R_stands.2.1 83 = .ok (.iload_n 1, 1) := by decide +kernel
theorem d_R_stands_84 : decode m_R_stands.2.1 84 = .ok (.ifCond .eq 7, 3) := by decide +kernel
theorem d_R_stands_87 : decode m_R_stands.2.1 87 = .ok (.iconst 1, 1) := by decide +kernel
theorem d_R_stands_88 : decode m_R_stands.2.1 88 = .ok (.goto 4, 3) := by decide +kernel
theorem d_R_stands_91 : decode m_R_stands.2.1 91 = .ok (.iconst 2, 1) := by decide +kernel
theorem d_R_stands_92 : decode m_R_stands.2.1 92 = .ok (.ireturn, 1) := by decide +kernel
theorem d_R_fiber_0 : decode m_R_fiber.2.1 0 = .ok (.aload_n 0, 1) := by decide +kernel
theorem d_R_fiber_1 : decode m_R_fiber.2.1 1 = .ok (.getfield 159, 3) := by decide +kernel
theorem d_R_fiber_4 : decode m_R_fiber.2.1 4 = .ok (.ifCond .eq 17, 3) := by decide +kernel
theorem d_R_fiber_7 : decode m_R_fiber.2.1 7 = .ok (.iload_n 1, 1) := by decide +kernel
theorem d_R_fiber_8 : decode m_R_fiber.2.1 8 = .ok (.iconst 0, 1) := by decide +kernel
theorem d_R_fiber_9 : decode m_R_fiber.2.1 9 = .ok (.aload_n 0, 1) := by decide +kernel
theorem d_R_fiber_10 : decode m_R_fiber.2.1 10 = .ok (.getfield 153, 3) := by decide +kernel
theorem d_R_fiber_13 : decode m_R_fiber.2.1 13 = .ok (.iconst 1, 1) := by decide +kernel
theorem d_R_fiber_14 : decode m_R_fiber.2.1 14 = .ok (.isub, 1) := by decide +kernel
theorem d_R_fiber_15 : decode m_R_fiber.2.1 15 = .ok (.invokestatic 141, 3) := by decide +kernel
theorem d_R_fiber_18 : decode m_R_fiber.2.1 18 = .ok (.ifCond .ne 5, 3) := by decide +kernel
theorem d_R_fiber_21 : decode m_R_fiber.2.1 21 = .ok (.iconst (-1), 1) := by decide +kernel
theorem d_R_fiber_22 : decode m_R_fiber.2.1 22 = .ok (.ireturn, 1) := by decide +kernel
theorem d_R_fiber_23 : decode m_R_fiber.2.1 23 = .ok (.aload_n 0, 1) := by decide +kernel
theorem d_R_fiber_24 : decode m_R_fiber.2.1 24 = .ok (.getfield 22, 3) := by decide +kernel
theorem d_R_fiber_27 : decode m_R_fiber.2.1 27 = .ok (.iload_n 1, 1) := by decide +kernel
theorem d_R_fiber_28 : decode m_R_fiber.2.1 28 = .ok (.iaload, 1) := by decide +kernel
theorem d_R_fiber_29 : decode m_R_fiber.2.1 29 = .ok (.iconst 2, 1) := by decide +kernel
theorem d_R_fiber_30 : decode m_R_fiber.2.1 30 = .ok (.if_icmp .ne 7, 3) := by decide +kernel
theorem d_R_fiber_33 : decode m_R_fiber.2.1 33 = .ok (.iconst 1, 1) := by decide +kernel
theorem d_R_fiber_34 : decode m_R_fiber.2.1 34 = .ok (.goto 4, 3) := by decide +kernel
theorem d_R_fiber_37 : decode m_R_fiber.2.1 37 = .ok (.iconst 0, 1) := by decide +kernel
theorem d_R_fiber_38 : decode m_R_fiber.2.1 38 = .ok (.istore_n 3, 1) := by decide +kernel
theorem d_R_fiber_39 : decode m_R_fiber.2.1 39 = .ok (.iload_n 2, 1) := by decide +kernel
theorem d_R_fiber_40 : decode m_R_fiber.2.1 40 = .ok (.tableswitch 146 0 7 #[48, 72, 87, 94, 101, 108, 132, 139], 48) := by decide +kernel
theorem d_R_fiber_88 : decode m_R_fiber.2.1 88 = .ok (.iload_n 3, 1) := by decide +kernel
theorem d_R_fiber_89 : decode m_R_fiber.2.1 89 = .ok (.ifCond .eq 16, 3) := by decide +kernel
theorem d_R_fiber_92 : decode m_R_fiber.2.1 92 = .ok (.aload_n 0, 1) := by decide +kernel
theorem d_R_fiber_93 : decode m_R_fiber.2.1 93 = .ok (.getfield 50, 3) := by decide +kernel
theorem d_R_fiber_96 : decode m_R_fiber.2.1 96 = .ok (.iload_n 1, 1) := by decide +kernel
theorem d_R_fiber_97 : decode m_R_fiber.2.1 97 = .ok (.baload, 1) := by decide +kernel
theorem d_R_fiber_98 : decode m_R_fiber.2.1 98 = .ok (.ifCond .eq 7, 3) := by decide +kernel
theorem d_R_fiber_101 : decode m_R_fiber.2.1 101 = .ok (.iconst 3, 1) := by decide +kernel
theorem d_R_fiber_102 : decode m_R_fiber.2.1 102 = .ok (.goto 9, 3) := by decide +kernel
theorem d_R_fiber_105 : decode m_R_fiber.2.1 105 = .ok (.aload_n 0, 1) := by decide +kernel
theorem d_R_fiber_106 : decode m_R_fiber.2.1 106 = .ok (.getfield 22, 3) := by decide +kernel
theorem d_R_fiber_109 : decode m_R_fiber.2.1 109 = .ok (.iload_n 1, 1) := by decide +kernel
theorem d_R_fiber_110 : decode m_R_fiber.2.1 110 = .ok (.iaload, 1) := by decide +kernel
theorem d_R_fiber_111 : decode m_R_fiber.2.1 111 = .ok (.ireturn, 1) := by decide +kernel
theorem d_R_fiber_112 : decode m_R_fiber.2.1 112 = .ok (.aload_n 0, 1) := by decide +kernel
theorem d_R_fiber_113 : decode m_R_fiber.2.1 113 = .ok (.getfield 37, 3) := by decide +kernel
theorem d_R_fiber_116 : decode m_R_fiber.2.1 116 = .ok (.iload_n 1, 1) := by decide +kernel
theorem d_R_fiber_117 : decode m_R_fiber.2.1 117 = .ok (.baload, 1) := by decide +kernel
theorem d_R_fiber_118 : decode m_R_fiber.2.1 118 = .ok (.ifCond .eq 7, 3) := by decide +kernel
theorem d_R_fiber_121 : decode m_R_fiber.2.1 121 = .ok (.iconst 1, 1) := by decide +kernel
theorem d_R_fiber_122 : decode m_R_fiber.2.1 122 = .ok (.goto 4, 3) := by decide +kernel
theorem d_R_fiber_125 : decode m_R_fiber.2.1 125 = .ok (.iconst 0, 1) := by decide +kernel
theorem d_R_fiber_126 : decode m_R_fiber.2.1 126 = .ok (.ireturn, 1) := by decide +kernel
theorem d_R_fiber_127 : decode m_R_fiber.2.1 127 = .ok (.aload_n 0, 1) := by decide +kernel
theorem d_R_fiber_128 : decode m_R_fiber.2.1 128 = .ok (.getfield 74, 3) := by decide +kernel
theorem d_R_fiber_131 : decode m_R_fiber.2.1 131 = .ok (.iload_n 1, 1) := by decide +kernel
theorem d_R_fiber_132 : decode m_R_fiber.2.1 132 = .ok (.iaload, 1) := by decide +kernel
theorem d_R_fiber_133 : decode m_R_fiber.2.1 133 = .ok (.ireturn, 1) := by decide +kernel
theorem d_R_fiber_134 : decode m_R_fiber.2.1 134 = .ok (.aload_n 0, 1) := by decide +kernel
theorem d_R_fiber_135 : decode m_R_fiber.2.1 135 = .ok (.getfield 25, 3) := by decide +kernel
theorem d_R_fiber_138 : decode m_R_fiber.2.1 138 = .ok (.iload_n 1, 1) := by decide +kernel
theorem d_R_fiber_139 : decode m_R_fiber.2.1 139 = .ok (.iaload, 1) := by decide +kernel
theorem d_R_fiber_140 : decode m_R_fiber.2.1 140 = .ok (.ireturn, 1) := by decide +kernel
theorem d_R_fiber_141 : decode m_R_fiber.2.1 141 = .ok (.aload_n 0, 1) := by decide +kernel
theorem d_R_fiber_142 : decode m_R_fiber.2.1 142 = .ok (.getfield 31, 3) := by decide +kernel
theorem d_R_fiber_145 : decode m_R_fiber.2.1 145 = .ok (.iload_n 1, 1) := by decide +kernel
theorem d_R_fiber_146 : decode m_R_fiber.2.1 146 = .ok (.iaload, 1) := by decide +kernel
theorem d_R_fiber_147 : decode m_R_fiber.2.1 147 = .ok (.ireturn, 1) := by decide +kernel
theorem d_R_fiber_148 : decode m_R_fiber.2.1 148 = .ok (.iload_n 3, 1) := by decide +kernel
theorem d_R_fiber_149 : decode m_R_fiber.2.1 149 = .ok (.ifCond .eq 21, 3) := by decide +kernel
theorem d_R_fiber_152 : decode m_R_fiber.2.1 152 = .ok (.aload_n 0, 1) := by decide +kernel
theorem d_R_fiber_153 : decode m_R_fiber.2.1 153 = .ok (.getfield 50, 3) := by decide +kernel
theorem d_R_fiber_156 : decode m_R_fiber.2.1 156 = .ok (.iload_n 1, 1) := by decide +kernel
theorem d_R_fiber_157 : decode m_R_fiber.2.1 157 = .ok (.baload, 1) := by decide +kernel
theorem d_R_fiber_158 : decode m_R_fiber.2.1 158 = .ok (.ifCond .ne 12, 3) := by decide +kernel
theorem d_R_fiber_161 : decode m_R_fiber.2.1 161 = .ok (.aload_n 0, 1) := by decide +kernel
theorem d_R_fiber_162 : decode m_R_fiber.2.1 162 = .ok (.getfield 47, 3) := by decide +kernel
theorem d_R_fiber_165 : decode m_R_fiber.2.1 165 = .ok (.iload_n 1, 1) := by decide +kernel
theorem d_R_fiber_166 : decode m_R_fiber.2.1 166 = .ok (.iaload, 1) := by decide +kernel
theorem d_R_fiber_167 : decode m_R_fiber.2.1 167 = .ok (.goto 4, 3) := by decide +kernel
theorem d_R_fiber_170 : decode m_R_fiber.2.1 170 = .ok (.iconst 0, 1) := by decide +kernel
theorem d_R_fiber_171 : decode m_R_fiber.2.1 171 = .ok (.ireturn, 1) := by decide +kernel
theorem d_R_fiber_172 : decode m_R_fiber.2.1 172 = .ok (.aload_n 0, 1) := by decide +kernel
theorem d_R_fiber_173 : decode m_R_fiber.2.1 173 = .ok (.getfield 34, 3) := by decide +kernel
theorem d_R_fiber_176 : decode m_R_fiber.2.1 176 = .ok (.iload_n 1, 1) := by decide +kernel
theorem d_R_fiber_177 : decode m_R_fiber.2.1 177 = .ok (.iaload, 1) := by decide +kernel
theorem d_R_fiber_178 : decode m_R_fiber.2.1 178 = .ok (.ireturn, 1) := by decide +kernel
theorem d_R_fiber_179 : decode m_R_fiber.2.1 179 = .ok (.aload_n 0, 1) := by decide +kernel
theorem d_R_fiber_180 : decode m_R_fiber.2.1 180 = .ok (.getfield 53, 3) := by decide +kernel
theorem d_R_fiber_183 : decode m_R_fiber.2.1 183 = .ok (.iload_n 1, 1) := by decide +kernel
theorem d_R_fiber_184 : decode m_R_fiber.2.1 184 = .ok (.iaload, 1) := by decide +kernel
theorem d_R_fiber_185 : decode m_R_fiber.2.1 185 = .ok (.ireturn, 1) := by decide +kernel
theorem d_R_fiber_186 : decode m_R_fiber.2.1 186 = .ok (.iconst (-1), 1) := by decide +kernel
theorem d_R_fiber_187 : decode m_R_fiber.2.1 187 = .ok (.ireturn, 1) := by decide +kernel
theorem d_R_cause_0 : decode m_R_cause.2.1 0 = .ok (.aload_n 0, 1) := by decide +kernel
theorem d_R_cause_1 : decode m_R_cause.2.1 1 = .ok (.getfield 159, 3) := by decide +kernel
theorem d_R_cause_4 : decode m_R_cause.2.1 4 = .ok (.ifCond .eq 61, 3) := by decide +kernel
theorem d_R_cause_7 : decode m_R_cause.2.1 7 = .ok (.iload_n 1, 1) := by decide +kernel
theorem d_R_cause_8 : decode m_R_cause.2.1 8 = .ok (.iconst 0, 1) := by decide +kernel
theorem d_R_cause_9 : decode m_R_cause.2.1 9 = .ok (.aload_n 0, 1) := by decide +kernel
theorem d_R_cause_10 : decode m_R_cause.2.1 10 = .ok (.getfield 153, 3) := by decide +kernel
theorem d_R_cause_13 : decode m_R_cause.2.1 13 = .ok (.iconst 1, 1) := by decide +kernel
theorem d_R_cause_14 : decode m_R_cause.2.1 14 = .ok (.isub, 1) := by decide +kernel
theorem d_R_cause_15 : decode m_R_cause.2.1 15 = .ok (.invokestatic 141, 3) := by decide +kernel
theorem d_R_cause_18 : decode m_R_cause.2.1 18 = .ok (.ifCond .eq 47, 3) := by decide +kernel
theorem d_R_cause_21 : decode m_R_cause.2.1 21 = .ok (.aload_n 0, 1) := by decide +kernel
theorem d_R_cause_22 : decode m_R_cause.2.1 22 = .ok (.getfield 22, 3) := by decide +kernel
theorem d_R_cause_25 : decode m_R_cause.2.1 25 = .ok (.iload_n 1, 1) := by decide +kernel
theorem d_R_cause_26 : decode m_R_cause.2.1 26 = .ok (.iaload, 1) := by decide +kernel
theorem d_R_cause_27 : decode m_R_cause.2.1 27 = .ok (.iconst 2, 1) := by decide +kernel
theorem d_R_cause_28 : decode m_R_cause.2.1 28 = .ok (.if_icmp .ne 37, 3) := by decide +kernel
theorem d_R_cause_31 : decode m_R_cause.2.1 31 = .ok (.aload_n 0, 1) := by decide +kernel
theorem d_R_cause_32 : decode m_R_cause.2.1 32 = .ok (.getfield 50, 3) := by decide +kernel
theorem d_R_cause_35 : decode m_R_cause.2.1 35 = .ok (.iload_n 1, 1) := by decide +kernel
theorem d_R_cause_36 : decode m_R_cause.2.1 36 = .ok (.baload, 1) := by decide +kernel
theorem d_R_cause_37 : decode m_R_cause.2.1 37 = .ok (.ifCond .eq 28, 3) := by decide +kernel
theorem d_R_cause_40 : decode m_R_cause.2.1 40 = .ok (.iload_n 2, 1) := by decide +kernel
theorem d_R_cause_41 : decode m_R_cause.2.1 41 = .ok (.iconst 0, 1) := by decide +kernel
theorem d_R_cause_42 : decode m_R_cause.2.1 42 = .ok (.aload_n 0, 1) := by decide +kernel
theorem d_R_cause_43 : decode m_R_cause.2.1 43 = .ok (.getfield 107, 3) := by decide +kernel
theorem d_R_cause_46 : decode m_R_cause.2.1 46 = .ok (.iload_n 1, 1) := by decide +kernel
theorem d_R_cause_47 : decode m_R_cause.2.1 47 = .ok (.iaload, 1) := by decide +kernel
theorem d_R_cause_48 : decode m_R_cause.2.1 48 = .ok (.iconst 1, 1) := by decide +kernel
theorem d_R_cause_49 : decode m_R_cause.2.1 49 = .ok (.isub, 1) := by decide +kernel
theorem d_R_cause_50 : decode m_R_cause.2.1 50 = .ok (.invokestatic 141, 3) := by decide +kernel
theorem d_R_cause_53 : decode m_R_cause.2.1 53 = .ok (.ifCond .eq 12, 3) := by decide +kernel
theorem d_R_cause_56 : decode m_R_cause.2.1 56 = .ok (.iload_n 3, 1) := by decide +kernel
theorem d_R_cause_57 : decode m_R_cause.2.1 57 = .ok (.iconst 0, 1) := by decide +kernel
theorem d_R_cause_58 : decode m_R_cause.2.1 58 = .ok (.iconst 1, 1) := by decide +kernel
theorem d_R_cause_59 : decode m_R_cause.2.1 59 = .ok (.invokestatic 141, 3) := by decide +kernel
theorem d_R_cause_62 : decode m_R_cause.2.1 62 = .ok (.ifCond .ne 5, 3) := by decide +kernel
theorem d_R_cause_65 : decode m_R_cause.2.1 65 = .ok (.iconst (-1), 1) := by decide +kernel
theorem d_R_cause_66 : decode m_R_cause.2.1 66 = .ok (.ireturn, 1) := by decide +kernel
theorem d_R_cause_67 : decode m_R_cause.2.1 67 = .ok (.iload_n 3, 1) := by decide +kernel
theorem d_R_cause_68 : decode m_R_cause.2.1 68 = .ok (.ifCond .ne 17, 3) := by decide +kernel
theorem d_R_cause_71 : decode m_R_cause.2.1 71 = .ok (.aload_n 0, 1) := by decide +kernel
theorem d_R_cause_72 : decode m_R_cause.2.1 72 = .ok (.getfield 110, 3) := by decide +kernel
theorem d_R_cause_75 : decode m_R_cause.2.1 75 = .ok (.bipush 9, 2) := by decide +kernel
theorem d_R_cause_77 : decode m_R_cause.2.1 77 = .ok (.iload_n 1, 1) := by decide +kernel
theorem d_R_cause_78 : decode m_R_cause.2.1 78 = .ok (.imul, 1) := by decide +kernel
theorem d_R_cause_79 : decode m_R_cause.2.1 79 = .ok (.iload_n 2, 1) := by decide +kernel
theorem d_R_cause_80 : decode m_R_cause.2.1 80 = .ok (.iadd, 1) := by decide +kernel
theorem d_R_cause_81 : decode m_R_cause.2.1 81 = .ok (.iaload, 1) := by decide +kernel
theorem d_R_cause_82 : decode m_R_cause.2.1 82 = .ok (.goto 14, 3) := by decide +kernel
theorem d_R_cause_85 : decode m_R_cause.2.1 85 = .ok (.aload_n 0, 1) := by decide +kernel
theorem d_R_cause_86 : decode m_R_cause.2.1 86 = .ok (.getfield 113, 3) := by decide +kernel
theorem d_R_cause_89 : decode m_R_cause.2.1 89 = .ok (.bipush 9, 2) := by decide +kernel
theorem d_R_cause_91 : decode m_R_cause.2.1 91 = .ok (.iload_n 1, 1) := by decide +kernel
theorem d_R_cause_92 : decode m_R_cause.2.1 92 = .ok (.imul, 1) := by decide +kernel
theorem d_R_cause_93 : decode m_R_cause.2.1 93 = .ok (.iload_n 2, 1) := by decide +kernel
theorem d_R_cause_94 : decode m_R_cause.2.1 94 = .ok (.iadd, 1) := by decide +kernel
theorem d_R_cause_95 : decode m_R_cause.2.1 95 = .ok (.iaload, 1) := by decide +kernel
theorem d_R_cause_96 : decode m_R_cause.2.1 96 = .ok (.ireturn, 1) := by decide +kernel
theorem d_R_queued_0 : decode m_R_queued.2.1 0 = .ok (.aload_n 0, 1) := by decide +kernel
theorem d_R_queued_1 : decode m_R_queued.2.1 1 = .ok (.getfield 159, 3) := by decide +kernel
theorem d_R_queued_4 : decode m_R_queued.2.1 4 = .ok (.ifCond .eq 26, 3) := by decide +kernel
theorem d_R_queued_7 : decode m_R_queued.2.1 7 = .ok (.iload_n 1, 1) := by decide +kernel
theorem d_R_queued_8 : decode m_R_queued.2.1 8 = .ok (.iconst 0, 1) := by decide +kernel
theorem d_R_queued_9 : decode m_R_queued.2.1 9 = .ok (.aload_n 0, 1) := by decide +kernel
theorem d_R_queued_10 : decode m_R_queued.2.1 10 = .ok (.getfield 156, 3) := by decide +kernel
theorem d_R_queued_13 : decode m_R_queued.2.1 13 = .ok (.iconst 1, 1) := by decide +kernel
theorem d_R_queued_14 : decode m_R_queued.2.1 14 = .ok (.isub, 1) := by decide +kernel
theorem d_R_queued_15 : decode m_R_queued.2.1 15 = .ok (.invokestatic 141, 3) := by decide +kernel
theorem d_R_queued_18 : decode m_R_queued.2.1 18 = .ok (.ifCond .eq 12, 3) := by decide +kernel
theorem d_R_queued_21 : decode m_R_queued.2.1 21 = .ok (.aload_n 0, 1) := by decide +kernel
theorem d_R_queued_22 : decode m_R_queued.2.1 22 = .ok (.getfield 116, 3) := by decide +kernel
theorem d_R_queued_25 : decode m_R_queued.2.1 25 = .ok (.iload_n 1, 1) := by decide +kernel
theorem d_R_queued_26 : decode m_R_queued.2.1 26 = .ok (.iaload, 1) := by decide +kernel
theorem d_R_queued_27 : decode m_R_queued.2.1 27 = .ok (.goto 4, 3) := by decide +kernel
theorem d_R_queued_30 : decode m_R_queued.2.1 30 = .ok (.iconst (-1), 1) := by decide +kernel
theorem d_R_queued_31 : decode m_R_queued.2.1 31 = .ok (.ireturn, 1) := by decide +kernel
theorem d_R_printed_0 : decode m_R_printed.2.1 0 = .ok (.iload_n 1, 1) := by decide +kernel
theorem d_R_printed_1 : decode m_R_printed.2.1 1 = .ok (.iconst 0, 1) := by decide +kernel
theorem d_R_printed_2 : decode m_R_printed.2.1 2 = .ok (.bipush 23, 2) := by decide +kernel
theorem d_R_printed_4 : decode m_R_printed.2.1 4 = .ok (.invokestatic 141, 3) := by decide +kernel
theorem d_R_printed_7 : decode m_R_printed.2.1 7 = .ok (.ifCond .eq 20, 3) := by decide +kernel
theorem d_R_printed_10 : decode m_R_printed.2.1 10 = .ok (.iload_n 1, 1) := by decide +kernel
theorem d_R_printed_11 : decode m_R_printed.2.1 11 = .ok (.aload_n 0, 1) := by decide +kernel
theorem d_R_printed_12 : decode m_R_printed.2.1 12 = .ok (.getfield 169, 3) := by decide +kernel
theorem d_R_printed_15 : decode m_R_printed.2.1 15 = .ok (.if_icmp .ge 12, 3) := by decide +kernel
theorem d_R_printed_18 : decode m_R_printed.2.1 18 = .ok (.aload_n 0, 1) := by decide +kernel
theorem d_R_printed_19 : decode m_R_printed.2.1 19 = .ok (.getfield 128, 3) := by decide +kernel
theorem d_R_printed_22 : decode m_R_printed.2.1 22 = .ok (.iload_n 1, 1) := by decide +kernel
theorem d_R_printed_23 : decode m_R_printed.2.1 23 = .ok (.iaload, 1) := by decide +kernel
theorem d_R_printed_24 : decode m_R_printed.2.1 24 = .ok (.goto 4, 3) := by decide +kernel
theorem d_R_printed_27 : decode m_R_printed.2.1 27 = .ok (.iconst 0, 1) := by decide +kernel
theorem d_R_printed_28 : decode m_R_printed.2.1 28 = .ok (.ireturn, 1) := by decide +kernel
theorem d_R_waiting_0 : decode m_R_waiting.2.1 0 = .ok (.iconst 0, 1) := by decide +kernel
theorem d_R_waiting_1 : decode m_R_waiting.2.1 1 = .ok (.istore_n 3, 1) := by decide +kernel
theorem d_R_waiting_2 : decode m_R_waiting.2.1 2 = .ok (.iconst 0, 1) := by decide +kernel
theorem d_R_waiting_3 : decode m_R_waiting.2.1 3 = .ok (.istore 4, 2) := by decide +kernel
theorem d_R_waiting_5 : decode m_R_waiting.2.1 5 = .ok (.iload 4, 2) := by decide +kernel
theorem d_R_waiting_7 : decode m_R_waiting.2.1 7 = .ok (.aload_n 0, 1) := by decide +kernel
theorem d_R_waiting_8 : decode m_R_waiting.2.1 8 = .ok (.getfield 153, 3) := by decide +kernel
theorem d_R_waiting_11 : decode m_R_waiting.2.1 11 = .ok (.if_icmp .ge 45, 3) := by decide +kernel
theorem d_R_waiting_14 : decode m_R_waiting.2.1 14 = .ok (.aload_n 0, 1) := by decide +kernel
theorem d_R_waiting_15 : decode m_R_waiting.2.1 15 = .ok (.getfield 22, 3) := by decide +kernel
theorem d_R_waiting_18 : decode m_R_waiting.2.1 18 = .ok (.iload 4, 2) := by decide +kernel
theorem d_R_waiting_20 : decode m_R_waiting.2.1 20 = .ok (.iaload, 1) := by decide +kernel
theorem d_R_waiting_21 : decode m_R_waiting.2.1 21 = .ok (.iconst 1, 1) := by decide +kernel
theorem d_R_waiting_22 : decode m_R_waiting.2.1 22 = .ok (.if_icmp .ne 28, 3) := by decide +kernel
theorem d_R_waiting_25 : decode m_R_waiting.2.1 25 = .ok (.aload_n 0, 1) := by decide +kernel
theorem d_R_waiting_26 : decode m_R_waiting.2.1 26 = .ok (.getfield 53, 3) := by decide +kernel
theorem d_R_waiting_29 : decode m_R_waiting.2.1 29 = .ok (.iload 4, 2) := by decide +kernel
theorem d_R_waiting_31 : decode m_R_waiting.2.1 31 = .ok (.iaload, 1) := by decide +kernel
theorem d_R_waiting_32 : decode m_R_waiting.2.1 32 = .ok (.iload_n 1, 1) := by decide +kernel
theorem d_R_waiting_33 : decode m_R_waiting.2.1 33 = .ok (.if_icmp .ne 17, 3) := by decide +kernel
theorem d_R_waiting_36 : decode m_R_waiting.2.1 36 = .ok (.aload_n 0, 1) := by decide +kernel
theorem d_R_waiting_37 : decode m_R_waiting.2.1 37 = .ok (.getfield 56, 3) := by decide +kernel
theorem d_R_waiting_40 : decode m_R_waiting.2.1 40 = .ok (.iload 4, 2) := by decide +kernel
theorem d_R_waiting_42 : decode m_R_waiting.2.1 42 = .ok (.iaload, 1) := by decide +kernel
theorem d_R_waiting_43 : decode m_R_waiting.2.1 43 = .ok (.iload_n 2, 1) := by decide +kernel
theorem d_R_waiting_44 : decode m_R_waiting.2.1 44 = .ok (.if_icmp .ne 6, 3) := by decide +kernel
theorem d_R_waiting_47 : decode m_R_waiting.2.1 47 = .ok (.iinc 3 1, 3) := by decide +kernel
theorem d_R_waiting_50 : decode m_R_waiting.2.1 50 = .ok (.iinc 4 1, 3) := by decide +kernel
theorem d_R_waiting_53 : decode m_R_waiting.2.1 53 = .ok (.goto (-48), 3) := by decide +kernel
theorem d_R_waiting_56 : decode m_R_waiting.2.1 56 = .ok (.iload_n 3, 1) := by decide +kernel
theorem d_R_waiting_57 : decode m_R_waiting.2.1 57 = .ok (.ireturn, 1) := by decide +kernel
theorem d_R_cell_0 : decode m_R_cell.2.1 0 = .ok (.aload_n 0, 1) := by decide +kernel
theorem d_R_cell_1 : decode m_R_cell.2.1 1 = .ok (.getfield 159, 3) := by decide +kernel
theorem d_R_cell_4 : decode m_R_cell.2.1 4 = .ok (.ifCond .eq 12, 3) := by decide +kernel
theorem d_R_cell_7 : decode m_R_cell.2.1 7 = .ok (.iload_n 1, 1) := by decide +kernel
theorem d_R_cell_8 : decode m_R_cell.2.1 8 = .ok (.iconst 0, 1) := by decide +kernel
theorem d_R_cell_9 : decode m_R_cell.2.1 9 = .ok (.iconst 3, 1) := by decide +kernel
theorem d_R_cell_10 : decode m_R_cell.2.1 10 = .ok (.invokestatic 141, 3) := by decide +kernel
theorem d_R_cell_13 : decode m_R_cell.2.1 13 = .ok (.ifCond .ne 5, 3) := by decide +kernel
theorem d_R_cell_16 : decode m_R_cell.2.1 16 = .ok (.iconst (-1), 1) := by decide +kernel
theorem d_R_cell_17 : decode m_R_cell.2.1 17 = .ok (.ireturn, 1) := by decide +kernel
theorem d_R_cell_18 : decode m_R_cell.2.1 18 = .ok (.iload_n 2, 1) := by decide +kernel
theorem d_R_cell_19 : decode m_R_cell.2.1 19 = .ok (.tableswitch 88 0 5 #[37, 44, 59, 66, 73, 80], 37) := by decide +kernel
theorem d_R_cell_56 : decode m_R_cell.2.1 56 = .ok (.aload_n 0, 1) := by decide +kernel
theorem d_R_cell_57 : decode m_R_cell.2.1 57 = .ok (.getfield 119, 3) := by decide +kernel
theorem d_R_cell_60 : decode m_R_cell.2.1 60 = .ok (.iload_n 1, 1) := by decide +kernel
theorem d_R_cell_61 : decode m_R_cell.2.1 61 = .ok (.iaload, 1) := by decide +kernel
theorem d_R_cell_62 : decode m_R_cell.2.1 62 = .ok (.ireturn, 1) := by decide +kernel
theorem d_R_cell_63 : decode m_R_cell.2.1 63 = .ok (.aload_n 0, 1) := by decide +kernel
theorem d_R_cell_64 : decode m_R_cell.2.1 64 = .ok (.getfield 131, 3) := by decide +kernel
theorem d_R_cell_67 : decode m_R_cell.2.1 67 = .ok (.iload_n 1, 1) := by decide +kernel
theorem d_R_cell_68 : decode m_R_cell.2.1 68 = .ok (.baload, 1) := by decide +kernel
theorem d_R_cell_69 : decode m_R_cell.2.1 69 = .ok (.ifCond .eq 7, 3) := by decide +kernel
theorem d_R_cell_72 : decode m_R_cell.2.1 72 = .ok (.iconst 1, 1) := by decide +kernel
theorem d_R_cell_73 : decode m_R_cell.2.1 73 = .ok (.goto 4, 3) := by decide +kernel
theorem d_R_cell_76 : decode m_R_cell.2.1 76 = .ok (.iconst 0, 1) := by decide +kernel
theorem d_R_cell_77 : decode m_R_cell.2.1 77 = .ok (.ireturn, 1) := by decide +kernel
theorem d_R_cell_78 : decode m_R_cell.2.1 78 = .ok (.aload_n 0, 1) := by decide +kernel
theorem d_R_cell_79 : decode m_R_cell.2.1 79 = .ok (.getfield 122, 3) := by decide +kernel
theorem d_R_cell_82 : decode m_R_cell.2.1 82 = .ok (.iload_n 1, 1) := by decide +kernel
theorem d_R_cell_83 : decode m_R_cell.2.1 83 = .ok (.iaload, 1) := by decide +kernel
theorem d_R_cell_84 : decode m_R_cell.2.1 84 = .ok (.ireturn, 1) := by decide +kernel
theorem d_R_cell_85 : decode m_R_cell.2.1 85 = .ok (.aload_n 0, 1) := by decide +kernel
theorem d_R_cell_86 : decode m_R_cell.2.1 86 = .ok (.getfield 125, 3) := by decide +kernel
theorem d_R_cell_89 : decode m_R_cell.2.1 89 = .ok (.iload_n 1, 1) := by decide +kernel
theorem d_R_cell_90 : decode m_R_cell.2.1 90 = .ok (.iaload, 1) := by decide +kernel
theorem d_R_cell_91 : decode m_R_cell.2.1 91 = .ok (.ireturn, 1) := by decide +kernel
theorem d_R_cell_92 : decode m_R_cell.2.1 92 = .ok (.aload_n 0, 1) := by decide +kernel
theorem d_R_cell_93 : decode m_R_cell.2.1 93 = .ok (.iconst 5, 1) := by decide +kernel
theorem d_R_cell_94 : decode m_R_cell.2.1 94 = .ok (.iload_n 1, 1) := by decide +kernel
theorem d_R_cell_95 : decode m_R_cell.2.1 95 = .ok (.invokevirtual 267, 3) := by decide +kernel
theorem d_R_cell_98 : decode m_R_cell.2.1 98 = .ok (.ireturn, 1) := by decide +kernel
theorem d_R_cell_99 : decode m_R_cell.2.1 99 = .ok (.aload_n 0, 1) := by decide +kernel
theorem d_R_cell_100 : decode m_R_cell.2.1 100 = .ok (.bipush 6, 2) := by decide +kernel
theorem d_R_cell_102 : decode m_R_cell.2.1 102 = .ok (.iload_n 1, 1) := by decide +kernel
theorem d_R_cell_103 : decode m_R_cell.2.1 103 = .ok (.invokevirtual 267, 3) := by decide +kernel
theorem d_R_cell_106 : decode m_R_cell.2.1 106 = .ok (.ireturn, 1) := by decide +kernel
theorem d_R_cell_107 : decode m_R_cell.2.1 107 = .ok (.iconst (-1), 1) := by decide +kernel
theorem d_R_cell_108 : decode m_R_cell.2.1 108 = .ok (.ireturn, 1) := by decide +kernel
theorem d_R_count_0 : decode m_R_count.2.1 0 = .ok (.iload_n 1, 1) := by decide +kernel
theorem d_R_count_1 : decode m_R_count.2.1 1 = .ok (.tableswitch 98 0 7 #[47, 52, 57, 62, 67, 72, 77, 82], 47) := by decide +kernel
theorem d_R_count_48 : decode m_R_count.2.1 48 = .ok (.aload_n 0, 1) := by decide +kernel
theorem d_R_count_49 : decode m_R_count.2.1 49 = .ok (.getfield 138, 3) := by decide +kernel
theorem d_R_count_52 : decode m_R_count.2.1 52 = .ok (.ireturn, 1) := by decide +kernel
theorem d_R_count_53 : decode m_R_count.2.1 53 = .ok (.aload_n 0, 1) := by decide +kernel
theorem d_R_count_54 : decode m_R_count.2.1 54 = .ok (.getfield 153, 3) := by decide +kernel
theorem d_R_count_57 : decode m_R_count.2.1 57 = .ok (.ireturn, 1) := by decide +kernel
theorem d_R_count_58 : decode m_R_count.2.1 58 = .ok (.aload_n 0, 1) := by decide +kernel
theorem d_R_count_59 : decode m_R_count.2.1 59 = .ok (.getfield 163, 3) := by decide +kernel
theorem d_R_count_62 : decode m_R_count.2.1 62 = .ok (.ireturn, 1) := by decide +kernel
theorem d_R_count_63 : decode m_R_count.2.1 63 = .ok (.aload_n 0, 1) := by decide +kernel
theorem d_R_count_64 : decode m_R_count.2.1 64 = .ok (.getfield 166, 3) := by decide +kernel
theorem d_R_count_67 : decode m_R_count.2.1 67 = .ok (.ireturn, 1) := by decide +kernel
theorem d_R_count_68 : decode m_R_count.2.1 68 = .ok (.aload_n 0, 1) := by decide +kernel
theorem d_R_count_69 : decode m_R_count.2.1 69 = .ok (.getfield 169, 3) := by decide +kernel
theorem d_R_count_72 : decode m_R_count.2.1 72 = .ok (.ireturn, 1) := by decide +kernel
theorem d_R_count_73 : decode m_R_count.2.1 73 = .ok (.aload_n 0, 1) := by decide +kernel
theorem d_R_count_74 : decode m_R_count.2.1 74 = .ok (.getfield 172, 3) := by decide +kernel
theorem d_R_count_77 : decode m_R_count.2.1 77 = .ok (.ireturn, 1) := by decide +kernel
theorem d_R_count_78 : decode m_R_count.2.1 78 = .ok (.aload_n 0, 1) := by decide +kernel
theorem d_R_count_79 : decode m_R_count.2.1 79 = .ok (.getfield 134, 3) := by decide +kernel
theorem d_R_count_82 : decode m_R_count.2.1 82 = .ok (.ireturn, 1) := by decide +kernel
theorem d_R_count_83 : decode m_R_count.2.1 83 = .ok (.aload_n 0, 1) := by decide +kernel
theorem d_R_count_84 : decode m_R_count.2.1 84 = .ok (.getfield 159, 3) := by decide +kernel
theorem d_R_count_87 : decode m_R_count.2.1 87 = .ok (.ifCond .eq 10, 3) := by decide +kernel
theorem d_R_count_90 : decode m_R_count.2.1 90 = .ok (.aload_n 0, 1) := by decide +kernel
theorem d_R_count_91 : decode m_R_count.2.1 91 = .ok (.invokevirtual 211, 3) := by decide +kernel
theorem d_R_count_94 : decode m_R_count.2.1 94 = .ok (.goto 4, 3) := by decide +kernel
theorem d_R_count_97 : decode m_R_count.2.1 97 = .ok (.iconst (-1), 1) := by decide +kernel
theorem d_R_count_98 : decode m_R_count.2.1 98 = .ok (.ireturn, 1) := by decide +kernel
theorem d_R_count_99 : decode m_R_count.2.1 99 = .ok (.iconst (-1), 1) := by decide +kernel
theorem d_R_count_100 : decode m_R_count.2.1 100 = .ok (.ireturn, 1) := by decide +kernel
theorem d_W_law_0 : decode m_W_law.2.1 0 = .ok (.new 7, 3) := by decide +kernel
theorem d_W_law_3 : decode m_W_law.2.1 3 = .ok (.dup, 1) := by decide +kernel
theorem d_W_law_4 : decode m_W_law.2.1 4 = .ok (.invokespecial 9, 3) := by decide +kernel
theorem d_W_law_7 : decode m_W_law.2.1 7 = .ok (.astore_n 1, 1) := by decide +kernel
theorem d_W_law_8 : decode m_W_law.2.1 8 = .ok (.new 10, 3) := by decide +kernel
theorem d_W_law_11 : decode m_W_law.2.1 11 = .ok (.dup, 1) := by decide +kernel
theorem d_W_law_12 : decode m_W_law.2.1 12 = .ok (.invokespecial 12, 3) := by decide +kernel
theorem d_W_law_15 : decode m_W_law.2.1 15 = .ok (.astore_n 2, 1) := by decide +kernel
theorem d_W_law_16 : decode m_W_law.2.1 16 = .ok (.iconst 0, 1) := by decide +kernel
theorem d_W_law_17 : decode m_W_law.2.1 17 = .ok (.istore_n 3, 1) := by decide +kernel
theorem d_W_law_18 : decode m_W_law.2.1 18 = .ok (.iload_n 3, 1) := by decide +kernel
theorem d_W_law_19 : decode m_W_law.2.1 19 = .ok (.aload_n 0, 1) := by decide +kernel
theorem d_W_law_20 : decode m_W_law.2.1 20 = .ok (.arraylength, 1) := by decide +kernel
theorem d_W_law_21 : decode m_W_law.2.1 21 = .ok (.iconst 5, 1) := by decide +kernel
theorem d_W_law_22 : decode m_W_law.2.1 22 = .ok (.isub, 1) := by decide +kernel
theorem d_W_law_23 : decode m_W_law.2.1 23 = .ok (.if_icmp .gt 418, 3) := by decide +kernel
theorem d_W_law_26 : decode m_W_law.2.1 26 = .ok (.aload_n 0, 1) := by decide +kernel
theorem d_W_law_27 : decode m_W_law.2.1 27 = .ok (.iload_n 3, 1) := by decide +kernel
theorem d_W_law_28 : decode m_W_law.2.1 28 = .ok (.iaload, 1) := by decide +kernel
theorem d_W_law_29 : decode m_W_law.2.1 29 = .ok (.bipush 15, 2) := by decide +kernel
theorem d_W_law_31 : decode m_W_law.2.1 31 = .ok (.iand, 1) := by decide +kernel
theorem d_W_law_32 : decode m_W_law.2.1 32 = .ok (.tableswitch 403 0 10 #[60, 113, 146, 169, 192, 225, 258, 301, 324, 347, 380], 60) := by decide +kernel
theorem d_W_law_92 : decode m_W_law.2.1 92 = .ok (.aload_n 1, 1) := by decide +kernel
theorem d_W_law_93 : decode m_W_law.2.1 93 = .ok (.aload_n 0, 1) := by decide +kernel
theorem d_W_law_94 : decode m_W_law.2.1 94 = .ok (.iload_n 3, 1) := by decide +kernel
theorem d_W_law_95 : decode m_W_law.2.1 95 = .ok (.iconst 1, 1) := by decide +kernel
theorem d_W_law_96 : decode m_W_law.2.1 96 = .ok (.iadd, 1) := by decide +kernel
theorem d_W_law_97 : decode m_W_law.2.1 97 = .ok (.iaload, 1) := by decide +kernel
theorem d_W_law_98 : decode m_W_law.2.1 98 = .ok (.aload_n 0, 1) := by decide +kernel
theorem d_W_law_99 : decode m_W_law.2.1 99 = .ok (.iload_n 3, 1) := by decide +kernel
theorem d_W_law_100 : decode m_W_law.2.1 100 = .ok (.iconst 2, 1) := by decide +kernel
theorem d_W_law_101 : decode m_W_law.2.1 101 = .ok (.iadd, 1) := by decide +kernel
theorem d_W_law_102 : decode m_W_law.2.1 102 = .ok (.iaload, 1) := by decide +kernel
theorem d_W_law_103 : decode m_W_law.2.1 103 = .ok (.aload_n 0, 1) := by decide +kernel
theorem d_W_law_104 : decode m_W_law.2.1 104 = .ok (.iload_n 3, 1) := by decide +kernel
theorem d_W_law_105 : decode m_W_law.2.1 105 = .ok (.iconst 3, 1) := by decide +kernel
theorem d_W_law_106 : decode m_W_law.2.1 106 = .ok (.iadd, 1) := by decide +kernel
theorem d_W_law_107 : decode m_W_law.2.1 107 = .ok (.iaload, 1) := by decide +kernel
theorem d_W_law_108 : decode m_W_law.2.1 108 = .ok (.aload_n 0, 1) := by decide +kernel
theorem d_W_law_109 : decode m_W_law.2.1 109 = .ok (.iload_n 3, 1) := by decide +kernel
theorem d_W_law_110 : decode m_W_law.2.1 110 = .ok (.iconst 4, 1) := by decide +kernel
theorem d_W_law_111 : decode m_W_law.2.1 111 = .ok (.iadd, 1) := by decide +kernel
theorem d_W_law_112 : decode m_W_law.2.1 112 = .ok (.iaload, 1) := by decide +kernel
theorem d_W_law_113 : decode m_W_law.2.1 113 = .ok (.invokevirtual 13, 3) := by decide +kernel
theorem d_W_law_116 : decode m_W_law.2.1 116 = .ok (.aload_n 2, 1) := by decide +kernel
theorem d_W_law_117 : decode m_W_law.2.1 117 = .ok (.aload_n 0, 1) := by decide +kernel
theorem d_W_law_118 : decode m_W_law.2.1 118 = .ok (.iload_n 3, 1) := by decide +kernel
theorem d_W_law_119 : decode m_W_law.2.1 119 = .ok (.iconst 1, 1) := by decide +kernel
theorem d_W_law_120 : decode m_W_law.2.1 120 = .ok (.iadd, 1) := by decide +kernel
theorem d_W_law_121 : decode m_W_law.2.1 121 = .ok (.iaload, 1) := by decide +kernel
theorem d_W_law_122 : decode m_W_law.2.1 122 = .ok (.aload_n 0, 1) := by decide +kernel
theorem d_W_law_123 : decode m_W_law.2.1 123 = .ok (.iload_n 3, 1) := by decide +kernel
theorem d_W_law_124 : decode m_W_law.2.1 124 = .ok (.iconst 2, 1) := by decide +kernel
theorem d_W_law_125 : decode m_W_law.2.1 125 = .ok (.iadd, 1) := by decide +kernel
theorem d_W_law_126 : decode m_W_law.2.1 126 = .ok (.iaload, 1) := by decide +kernel
theorem d_W_law_127 : decode m_W_law.2.1 127 = .ok (.aload_n 0, 1) := by decide +kernel
theorem d_W_law_128 : decode m_W_law.2.1 128 = .ok (.iload_n 3, 1) := by decide +kernel
theorem d_W_law_129 : decode m_W_law.2.1 129 = .ok (.iconst 3, 1) := by decide +kernel
theorem d_W_law_130 : decode m_W_law.2.1 130 = .ok (.iadd, 1) := by decide +kernel
theorem d_W_law_131 : decode m_W_law.2.1 131 = .ok (.iaload, 1) := by decide +kernel
theorem d_W_law_132 : decode m_W_law.2.1 132 = .ok (.aload_n 0, 1) := by decide +kernel
theorem d_W_law_133 : decode m_W_law.2.1 133 = .ok (.iload_n 3, 1) := by decide +kernel
theorem d_W_law_134 : decode m_W_law.2.1 134 = .ok (.iconst 4, 1) := by decide +kernel
theorem d_W_law_135 : decode m_W_law.2.1 135 = .ok (.iadd, 1) := by decide +kernel
theorem d_W_law_136 : decode m_W_law.2.1 136 = .ok (.iaload, 1) := by decide +kernel
theorem d_W_law_137 : decode m_W_law.2.1 137 = .ok (.invokevirtual 17, 3) := by decide +kernel
theorem d_W_law_140 : decode m_W_law.2.1 140 = .ok (.if_icmp .eq 295, 3) := by decide +kernel
theorem d_W_law_143 : decode m_W_law.2.1 143 = .ok (.iconst 0, 1) := by decide +kernel
theorem d_W_law_144 : decode m_W_law.2.1 144 = .ok (.ireturn, 1) := by decide +kernel
theorem d_W_law_145 : decode m_W_law.2.1 145 = .ok (.aload_n 1, 1) := by decide +kernel
theorem d_W_law_146 : decode m_W_law.2.1 146 = .ok (.aload_n 0, 1) := by decide +kernel
theorem d_W_law_147 : decode m_W_law.2.1 147 = .ok (.iload_n 3, 1) := by decide +kernel
theorem d_W_law_148 : decode m_W_law.2.1 148 = .ok (.iconst 1, 1) := by decide +kernel
theorem d_W_law_149 : decode m_W_law.2.1 149 = .ok (.iadd, 1) := by decide +kernel
theorem d_W_law_150 : decode m_W_law.2.1 150 = .ok (.iaload, 1) := by decide +kernel
theorem d_W_law_151 : decode m_W_law.2.1 151 = .ok (.aload_n 0, 1) := by decide +kernel
theorem d_W_law_152 : decode m_W_law.2.1 152 = .ok (.iload_n 3, 1) := by decide +kernel
theorem d_W_law_153 : decode m_W_law.2.1 153 = .ok (.iconst 2, 1) := by decide +kernel
theorem d_W_law_154 : decode m_W_law.2.1 154 = .ok (.iadd, 1) := by decide +kernel
theorem d_W_law_155 : decode m_W_law.2.1 155 = .ok (.iaload, 1) := by decide +kernel
theorem d_W_law_156 : decode m_W_law.2.1 156 = .ok (.invokevirtual 18, 3) := by decide +kernel
theorem d_W_law_159 : decode m_W_law.2.1 159 = .ok (.aload_n 2, 1) := by decide +kernel
theorem d_W_law_160 : decode m_W_law.2.1 160 = .ok (.aload_n 0, 1) := by decide +kernel
theorem d_W_law_161 : decode m_W_law.2.1 161 = .ok (.iload_n 3, 1) := by decide +kernel
theorem d_W_law_162 : decode m_W_law.2.1 162 = .ok (.iconst 1, 1) := by decide +kernel
theorem d_W_law_163 : decode m_W_law.2.1 163 = .ok (.iadd, 1) := by decide +kernel
theorem d_W_law_164 : decode m_W_law.2.1 164 = .ok (.iaload, 1) := by decide +kernel
theorem d_W_law_165 : decode m_W_law.2.1 165 = .ok (.aload_n 0, 1) := by decide +kernel
theorem d_W_law_166 : decode m_W_law.2.1 166 = .ok (.iload_n 3, 1) := by decide +kernel
theorem d_W_law_167 : decode m_W_law.2.1 167 = .ok (.iconst 2, 1) := by decide +kernel
theorem d_W_law_168 : decode m_W_law.2.1 168 = .ok (.iadd, 1) := by decide +kernel
theorem d_W_law_169 : decode m_W_law.2.1 169 = .ok (.iaload, 1) := by decide +kernel
theorem d_W_law_170 : decode m_W_law.2.1 170 = .ok (.invokevirtual 22, 3) := by decide +kernel
theorem d_W_law_173 : decode m_W_law.2.1 173 = .ok (.if_icmp .eq 262, 3) := by decide +kernel
theorem d_W_law_176 : decode m_W_law.2.1 176 = .ok (.iconst 0, 1) := by decide +kernel
theorem d_W_law_177 : decode m_W_law.2.1 177 = .ok (.ireturn, 1) := by decide +kernel
theorem d_W_law_178 : decode m_W_law.2.1 178 = .ok (.aload_n 1, 1) := by decide +kernel
theorem d_W_law_179 : decode m_W_law.2.1 179 = .ok (.aload_n 0, 1) := by decide +kernel
theorem d_W_law_180 : decode m_W_law.2.1 180 = .ok (.iload_n 3, 1) := by decide +kernel
theorem d_W_law_181 : decode m_W_law.2.1 181 = .ok (.iconst 1, 1) := by decide +kernel
theorem d_W_law_182 : decode m_W_law.2.1 182 = .ok (.iadd, 1) := by decide +kernel
theorem d_W_law_183 : decode m_W_law.2.1 183 = .ok (.iaload, 1) := by decide +kernel
theorem d_W_law_184 : decode m_W_law.2.1 184 = .ok (.invokevirtual 23, 3) := by decide +kernel
theorem d_W_law_187 : decode m_W_law.2.1 187 = .ok (.aload_n 2, 1) := by decide +kernel
theorem d_W_law_188 : decode m_W_law.2.1 188 = .ok (.aload_n 0, 1) := by decide +kernel
theorem d_W_law_189 : decode m_W_law.2.1 189 = .ok (.iload_n 3, 1) := by decide +kernel
theorem d_W_law_190 : decode m_W_law.2.1 190 = .ok (.iconst 1, 1) := by decide +kernel
theorem d_W_law_191 : decode m_W_law.2.1 191 = .ok (.iadd, 1) := by decide +kernel
theorem d_W_law_192 : decode m_W_law.2.1 192 = .ok (.iaload, 1) := by decide +kernel
theorem d_W_law_193 : decode m_W_law.2.1 193 = .ok (.invokevirtual 27, 3) := by decide +kernel
theorem d_W_law_196 : decode m_W_law.2.1 196 = .ok (.if_icmp .eq 239, 3) := by decide +kernel
theorem d_W_law_199 : decode m_W_law.2.1 199 = .ok (.iconst 0, 1) := by decide +kernel
theorem d_W_law_200 : decode m_W_law.2.1 200 = .ok (.ireturn, 1) := by decide +kernel
theorem d_W_law_201 : decode m_W_law.2.1 201 = .ok (.aload_n 1, 1) := by decide +kernel
theorem d_W_law_202 : decode m_W_law.2.1 202 = .ok (.aload_n 0, 1) := by decide +kernel
theorem d_W_law_203 : decode m_W_law.2.1 203 = .ok (.iload_n 3, 1) := by decide +kernel
theorem d_W_law_204 : decode m_W_law.2.1 204 = .ok (.iconst 1, 1) := by decide +kernel
theorem d_W_law_205 : decode m_W_law.2.1 205 = .ok (.iadd, 1) := by decide +kernel
theorem d_W_law_206 : decode m_W_law.2.1 206 = .ok (.iaload, 1) := by decide +kernel
theorem d_W_law_207 : decode m_W_law.2.1 207 = .ok (.invokevirtual 28, 3) := by decide +kernel
theorem d_W_law_210 : decode m_W_law.2.1 210 = .ok (.aload_n 2, 1) := by decide +kernel
theorem d_W_law_211 : decode m_W_law.2.1 211 = .ok (.aload_n 0, 1) := by decide +kernel
theorem d_W_law_212 : decode m_W_law.2.1 212 = .ok (.iload_n 3, 1) := by decide +kernel
theorem d_W_law_213 : decode m_W_law.2.1 213 = .ok (.iconst 1, 1) := by decide +kernel
theorem d_W_law_214 : decode m_W_law.2.1 214 = .ok (.iadd, 1) := by decide +kernel
theorem d_W_law_215 : decode m_W_law.2.1 215 = .ok (.iaload, 1) := by decide +kernel
theorem d_W_law_216 : decode m_W_law.2.1 216 = .ok (.invokevirtual 32, 3) := by decide +kernel
theorem d_W_law_219 : decode m_W_law.2.1 219 = .ok (.if_icmp .eq 216, 3) := by decide +kernel
theorem d_W_law_222 : decode m_W_law.2.1 222 = .ok (.iconst 0, 1) := by decide +kernel
theorem d_W_law_223 : decode m_W_law.2.1 223 = .ok (.ireturn, 1) := by decide +kernel
theorem d_W_law_224 : decode m_W_law.2.1 224 = .ok (.aload_n 1, 1) := by decide +kernel
theorem d_W_law_225 : decode m_W_law.2.1 225 = .ok (.aload_n 0, 1) := by decide +kernel
theorem d_W_law_226 : decode m_W_law.2.1 226 = .ok (.iload_n 3, 1) := by decide +kernel
theorem d_W_law_227 : decode m_W_law.2.1 227 = .ok (.iconst 1, 1) := by decide +kernel
theorem d_W_law_228 : decode m_W_law.2.1 228 = .ok (.iadd, 1) := by decide +kernel
theorem d_W_law_229 : decode m_W_law.2.1 229 = .ok (.iaload, 1) := by decide +kernel
theorem d_W_law_230 : decode m_W_law.2.1 230 = .ok (.aload_n 0, 1) := by decide +kernel
theorem d_W_law_231 : decode m_W_law.2.1 231 = .ok (.iload_n 3, 1) := by decide +kernel
theorem d_W_law_232 : decode m_W_law.2.1 232 = .ok (.iconst 2, 1) := by decide +kernel
theorem d_W_law_233 : decode m_W_law.2.1 233 = .ok (.iadd, 1) := by decide +kernel
theorem d_W_law_234 : decode m_W_law.2.1 234 = .ok (.iaload, 1) := by decide +kernel
theorem d_W_law_235 : decode m_W_law.2.1 235 = .ok (.invokevirtual 33, 3) := by decide +kernel
theorem d_W_law_238 : decode m_W_law.2.1 238 = .ok (.aload_n 2, 1) := by decide +kernel
theorem d_W_law_239 : decode m_W_law.2.1 239 = .ok (.aload_n 0, 1) := by decide +kernel
theorem d_W_law_240 : decode m_W_law.2.1 240 = .ok (.iload_n 3, 1) := by decide +kernel
theorem d_W_law_241 : decode m_W_law.2.1 241 = .ok (.iconst 1, 1) := by decide +kernel
theorem d_W_law_242 : decode m_W_law.2.1 242 = .ok (.iadd, 1) := by decide +kernel
theorem d_W_law_243 : decode m_W_law.2.1 243 = .ok (.iaload, 1) := by decide +kernel
theorem d_W_law_244 : decode m_W_law.2.1 244 = .ok (.aload_n 0, 1) := by decide +kernel
theorem d_W_law_245 : decode m_W_law.2.1 245 = .ok (.iload_n 3, 1) := by decide +kernel
theorem d_W_law_246 : decode m_W_law.2.1 246 = .ok (.iconst 2, 1) := by decide +kernel
theorem d_W_law_247 : decode m_W_law.2.1 247 = .ok (.iadd, 1) := by decide +kernel
theorem d_W_law_248 : decode m_W_law.2.1 248 = .ok (.iaload, 1) := by decide +kernel
theorem d_W_law_249 : decode m_W_law.2.1 249 = .ok (.invokevirtual 36, 3) := by decide +kernel
theorem d_W_law_252 : decode m_W_law.2.1 252 = .ok (.if_icmp .eq 183, 3) := by decide +kernel
theorem d_W_law_255 : decode m_W_law.2.1 255 = .ok (.iconst 0, 1) := by decide +kernel
theorem d_W_law_256 : decode m_W_law.2.1 256 = .ok (.ireturn, 1) := by decide +kernel
theorem d_W_law_257 : decode m_W_law.2.1 257 = .ok (.aload_n 1, 1) := by decide +kernel
theorem d_W_law_258 : decode m_W_law.2.1 258 = .ok (.aload_n 0, 1) := by decide +kernel
theorem d_W_law_259 : decode m_W_law.2.1 259 = .ok (.iload_n 3, 1) := by decide +kernel
theorem d_W_law_260 : decode m_W_law.2.1 260 = .ok (.iconst 1, 1) := by decide +kernel
theorem d_W_law_261 : decode m_W_law.2.1 261 = .ok (.iadd, 1) := by decide +kernel
theorem d_W_law_262 : decode m_W_law.2.1 262 = .ok (.iaload, 1) := by decide +kernel
theorem d_W_law_263 : decode m_W_law.2.1 263 = .ok (.aload_n 0, 1) := by decide +kernel
theorem d_W_law_264 : decode m_W_law.2.1 264 = .ok (.iload_n 3, 1) := by decide +kernel
theorem d_W_law_265 : decode m_W_law.2.1 265 = .ok (.iconst 2, 1) := by decide +kernel
theorem d_W_law_266 : decode m_W_law.2.1 266 = .ok (.iadd, 1) := by decide +kernel
theorem d_W_law_267 : decode m_W_law.2.1 267 = .ok (.iaload, 1) := by decide +kernel
theorem d_W_law_268 : decode m_W_law.2.1 268 = .ok (.invokevirtual 37, 3) := by decide +kernel
theorem d_W_law_271 : decode m_W_law.2.1 271 = .ok (.aload_n 2, 1) := by decide +kernel
theorem d_W_law_272 : decode m_W_law.2.1 272 = .ok (.aload_n 0, 1) := by decide +kernel
theorem d_W_law_273 : decode m_W_law.2.1 273 = .ok (.iload_n 3, 1) := by decide +kernel
theorem d_W_law_274 : decode m_W_law.2.1 274 = .ok (.iconst 1, 1) := by decide +kernel
theorem d_W_law_275 : decode m_W_law.2.1 275 = .ok (.iadd, 1) := by decide +kernel
theorem d_W_law_276 : decode m_W_law.2.1 276 = .ok (.iaload, 1) := by decide +kernel
theorem d_W_law_277 : decode m_W_law.2.1 277 = .ok (.aload_n 0, 1) := by decide +kernel
theorem d_W_law_278 : decode m_W_law.2.1 278 = .ok (.iload_n 3, 1) := by decide +kernel
theorem d_W_law_279 : decode m_W_law.2.1 279 = .ok (.iconst 2, 1) := by decide +kernel
theorem d_W_law_280 : decode m_W_law.2.1 280 = .ok (.iadd, 1) := by decide +kernel
theorem d_W_law_281 : decode m_W_law.2.1 281 = .ok (.iaload, 1) := by decide +kernel
theorem d_W_law_282 : decode m_W_law.2.1 282 = .ok (.invokevirtual 41, 3) := by decide +kernel
theorem d_W_law_285 : decode m_W_law.2.1 285 = .ok (.if_icmp .eq 150, 3) := by decide +kernel
theorem d_W_law_288 : decode m_W_law.2.1 288 = .ok (.iconst 0, 1) := by decide +kernel
theorem d_W_law_289 : decode m_W_law.2.1 289 = .ok (.ireturn, 1) := by decide +kernel
theorem d_W_law_290 : decode m_W_law.2.1 290 = .ok (.aload_n 1, 1) := by decide +kernel
theorem d_W_law_291 : decode m_W_law.2.1 291 = .ok (.aload_n 0, 1) := by decide +kernel
theorem d_W_law_292 : decode m_W_law.2.1 292 = .ok (.iload_n 3, 1) := by decide +kernel
theorem d_W_law_293 : decode m_W_law.2.1 293 = .ok (.iconst 1, 1) := by decide +kernel
theorem d_W_law_294 : decode m_W_law.2.1 294 = .ok (.iadd, 1) := by decide +kernel
theorem d_W_law_295 : decode m_W_law.2.1 295 = .ok (.iaload, 1) := by decide +kernel
theorem d_W_law_296 : decode m_W_law.2.1 296 = .ok (.aload_n 0, 1) := by decide +kernel
theorem d_W_law_297 : decode m_W_law.2.1 297 = .ok (.iload_n 3, 1) := by decide +kernel
theorem d_W_law_298 : decode m_W_law.2.1 298 = .ok (.iconst 2, 1) := by decide +kernel
theorem d_W_law_299 : decode m_W_law.2.1 299 = .ok (.iadd, 1) := by decide +kernel
theorem d_W_law_300 : decode m_W_law.2.1 300 = .ok (.iaload, 1) := by decide +kernel
theorem d_W_law_301 : decode m_W_law.2.1 301 = .ok (.aload_n 0, 1) := by decide +kernel
theorem d_W_law_302 : decode m_W_law.2.1 302 = .ok (.iload_n 3, 1) := by decide +kernel
theorem d_W_law_303 : decode m_W_law.2.1 303 = .ok (.iconst 3, 1) := by decide +kernel
theorem d_W_law_304 : decode m_W_law.2.1 304 = .ok (.iadd, 1) := by decide +kernel
theorem d_W_law_305 : decode m_W_law.2.1 305 = .ok (.iaload, 1) := by decide +kernel
theorem d_W_law_306 : decode m_W_law.2.1 306 = .ok (.invokevirtual 42, 3) := by decide +kernel
theorem d_W_law_309 : decode m_W_law.2.1 309 = .ok (.aload_n 2, 1) := by decide +kernel
theorem d_W_law_310 : decode m_W_law.2.1 310 = .ok (.aload_n 0, 1) := by decide +kernel
theorem d_W_law_311 : decode m_W_law.2.1 311 = .ok (.iload_n 3, 1) := by decide +kernel
theorem d_W_law_312 : decode m_W_law.2.1 312 = .ok (.iconst 1, 1) := by decide +kernel
theorem d_W_law_313 : decode m_W_law.2.1 313 = .ok (.iadd, 1) := by decide +kernel
theorem d_W_law_314 : decode m_W_law.2.1 314 = .ok (.iaload, 1) := by decide +kernel
theorem d_W_law_315 : decode m_W_law.2.1 315 = .ok (.aload_n 0, 1) := by decide +kernel
theorem d_W_law_316 : decode m_W_law.2.1 316 = .ok (.iload_n 3, 1) := by decide +kernel
theorem d_W_law_317 : decode m_W_law.2.1 317 = .ok (.iconst 2, 1) := by decide +kernel
theorem d_W_law_318 : decode m_W_law.2.1 318 = .ok (.iadd, 1) := by decide +kernel
theorem d_W_law_319 : decode m_W_law.2.1 319 = .ok (.iaload, 1) := by decide +kernel
theorem d_W_law_320 : decode m_W_law.2.1 320 = .ok (.aload_n 0, 1) := by decide +kernel
theorem d_W_law_321 : decode m_W_law.2.1 321 = .ok (.iload_n 3, 1) := by decide +kernel
theorem d_W_law_322 : decode m_W_law.2.1 322 = .ok (.iconst 3, 1) := by decide +kernel
theorem d_W_law_323 : decode m_W_law.2.1 323 = .ok (.iadd, 1) := by decide +kernel
theorem d_W_law_324 : decode m_W_law.2.1 324 = .ok (.iaload, 1) := by decide +kernel
theorem d_W_law_325 : decode m_W_law.2.1 325 = .ok (.invokevirtual 46, 3) := by decide +kernel
theorem d_W_law_328 : decode m_W_law.2.1 328 = .ok (.if_icmp .eq 107, 3) := by decide +kernel
theorem d_W_law_331 : decode m_W_law.2.1 331 = .ok (.iconst 0, 1) := by decide +kernel
theorem d_W_law_332 : decode m_W_law.2.1 332 = .ok (.ireturn, 1) := by decide +kernel
theorem d_W_law_333 : decode m_W_law.2.1 333 = .ok (.aload_n 1, 1) := by decide +kernel
theorem d_W_law_334 : decode m_W_law.2.1 334 = .ok (.aload_n 0, 1) := by decide +kernel
theorem d_W_law_335 : decode m_W_law.2.1 335 = .ok (.iload_n 3, 1) := by decide +kernel
theorem d_W_law_336 : decode m_W_law.2.1 336 = .ok (.iconst 1, 1) := by decide +kernel
theorem d_W_law_337 : decode m_W_law.2.1 337 = .ok (.iadd, 1) := by decide +kernel
theorem d_W_law_338 : decode m_W_law.2.1 338 = .ok (.iaload, 1) := by decide +kernel
theorem d_W_law_339 : decode m_W_law.2.1 339 = .ok (.invokevirtual 47, 3) := by decide +kernel
theorem d_W_law_342 : decode m_W_law.2.1 342 = .ok (.aload_n 2, 1) := by decide +kernel
theorem d_W_law_343 : decode m_W_law.2.1 343 = .ok (.aload_n 0, 1) := by decide +kernel
theorem d_W_law_344 : decode m_W_law.2.1 344 = .ok (.iload_n 3, 1) := by decide +kernel
theorem d_W_law_345 : decode m_W_law.2.1 345 = .ok (.iconst 1, 1) := by decide +kernel
theorem d_W_law_346 : decode m_W_law.2.1 346 = .ok (.iadd, 1) := by decide +kernel
theorem d_W_law_347 : decode m_W_law.2.1 347 = .ok (.iaload, 1) := by decide +kernel
theorem d_W_law_348 : decode m_W_law.2.1 348 = .ok (.invokevirtual 50, 3) := by decide +kernel
theorem d_W_law_351 : decode m_W_law.2.1 351 = .ok (.if_icmp .eq 84, 3) := by decide +kernel
theorem d_W_law_354 : decode m_W_law.2.1 354 = .ok (.iconst 0, 1) := by decide +kernel
theorem d_W_law_355 : decode m_W_law.2.1 355 = .ok (.ireturn, 1) := by decide +kernel
theorem d_W_law_356 : decode m_W_law.2.1 356 = .ok (.aload_n 1, 1) := by decide +kernel
theorem d_W_law_357 : decode m_W_law.2.1 357 = .ok (.aload_n 0, 1) := by decide +kernel
theorem d_W_law_358 : decode m_W_law.2.1 358 = .ok (.iload_n 3, 1) := by decide +kernel
theorem d_W_law_359 : decode m_W_law.2.1 359 = .ok (.iconst 1, 1) := by decide +kernel
theorem d_W_law_360 : decode m_W_law.2.1 360 = .ok (.iadd, 1) := by decide +kernel
theorem d_W_law_361 : decode m_W_law.2.1 361 = .ok (.iaload, 1) := by decide +kernel
theorem d_W_law_362 : decode m_W_law.2.1 362 = .ok (.invokevirtual 51, 3) := by decide +kernel
theorem d_W_law_365 : decode m_W_law.2.1 365 = .ok (.aload_n 2, 1) := by decide +kernel
theorem d_W_law_366 : decode m_W_law.2.1 366 = .ok (.aload_n 0, 1) := by decide +kernel
theorem d_W_law_367 : decode m_W_law.2.1 367 = .ok (.iload_n 3, 1) := by decide +kernel
theorem d_W_law_368 : decode m_W_law.2.1 368 = .ok (.iconst 1, 1) := by decide +kernel
theorem d_W_law_369 : decode m_W_law.2.1 369 = .ok (.iadd, 1) := by decide +kernel
theorem d_W_law_370 : decode m_W_law.2.1 370 = .ok (.iaload, 1) := by decide +kernel
theorem d_W_law_371 : decode m_W_law.2.1 371 = .ok (.invokevirtual 54, 3) := by decide +kernel
theorem d_W_law_374 : decode m_W_law.2.1 374 = .ok (.if_icmp .eq 61, 3) := by decide +kernel
theorem d_W_law_377 : decode m_W_law.2.1 377 = .ok (.iconst 0, 1) := by decide +kernel
theorem d_W_law_378 : decode m_W_law.2.1 378 = .ok (.ireturn, 1) := by decide +kernel
theorem d_W_law_379 : decode m_W_law.2.1 379 = .ok (.aload_n 1, 1) := by decide +kernel
theorem d_W_law_380 : decode m_W_law.2.1 380 = .ok (.aload_n 0, 1) := by decide +kernel
theorem d_W_law_381 : decode m_W_law.2.1 381 = .ok (.iload_n 3, 1) := by decide +kernel
theorem d_W_law_382 : decode m_W_law.2.1 382 = .ok (.iconst 1, 1) := by decide +kernel
theorem d_W_law_383 : decode m_W_law.2.1 383 = .ok (.iadd, 1) := by decide +kernel
theorem d_W_law_384 : decode m_W_law.2.1 384 = .ok (.iaload, 1) := by decide +kernel
theorem d_W_law_385 : decode m_W_law.2.1 385 = .ok (.aload_n 0, 1) := by decide +kernel
theorem d_W_law_386 : decode m_W_law.2.1 386 = .ok (.iload_n 3, 1) := by decide +kernel
theorem d_W_law_387 : decode m_W_law.2.1 387 = .ok (.iconst 2, 1) := by decide +kernel
theorem d_W_law_388 : decode m_W_law.2.1 388 = .ok (.iadd, 1) := by decide +kernel
theorem d_W_law_389 : decode m_W_law.2.1 389 = .ok (.iaload, 1) := by decide +kernel
theorem d_W_law_390 : decode m_W_law.2.1 390 = .ok (.invokevirtual 55, 3) := by decide +kernel
theorem d_W_law_393 : decode m_W_law.2.1 393 = .ok (.aload_n 2, 1) := by decide +kernel
theorem d_W_law_394 : decode m_W_law.2.1 394 = .ok (.aload_n 0, 1) := by decide +kernel
theorem d_W_law_395 : decode m_W_law.2.1 395 = .ok (.iload_n 3, 1) := by decide +kernel
theorem d_W_law_396 : decode m_W_law.2.1 396 = .ok (.iconst 1, 1) := by decide +kernel
theorem d_W_law_397 : decode m_W_law.2.1 397 = .ok (.iadd, 1) := by decide +kernel
theorem d_W_law_398 : decode m_W_law.2.1 398 = .ok (.iaload, 1) := by decide +kernel
theorem d_W_law_399 : decode m_W_law.2.1 399 = .ok (.aload_n 0, 1) := by decide +kernel
theorem d_W_law_400 : decode m_W_law.2.1 400 = .ok (.iload_n 3, 1) := by decide +kernel
theorem d_W_law_401 : decode m_W_law.2.1 401 = .ok (.iconst 2, 1) := by decide +kernel
theorem d_W_law_402 : decode m_W_law.2.1 402 = .ok (.iadd, 1) := by decide +kernel
theorem d_W_law_403 : decode m_W_law.2.1 403 = .ok (.iaload, 1) := by decide +kernel
theorem d_W_law_404 : decode m_W_law.2.1 404 = .ok (.invokevirtual 58, 3) := by decide +kernel
theorem d_W_law_407 : decode m_W_law.2.1 407 = .ok (.if_icmp .eq 28, 3) := by decide +kernel
theorem d_W_law_410 : decode m_W_law.2.1 410 = .ok (.iconst 0, 1) := by decide +kernel
theorem d_W_law_411 : decode m_W_law.2.1 411 = .ok (.ireturn, 1) := by decide +kernel
theorem d_W_law_412 : decode m_W_law.2.1 412 = .ok (.aload_n 1, 1) := by decide +kernel
theorem d_W_law_413 : decode m_W_law.2.1 413 = .ok (.aload_n 0, 1) := by decide +kernel
theorem d_W_law_414 : decode m_W_law.2.1 414 = .ok (.iload_n 3, 1) := by decide +kernel
theorem d_W_law_415 : decode m_W_law.2.1 415 = .ok (.iconst 1, 1) := by decide +kernel
theorem d_W_law_416 : decode m_W_law.2.1 416 = .ok (.iadd, 1) := by decide +kernel
theorem d_W_law_417 : decode m_W_law.2.1 417 = .ok (.iaload, 1) := by decide +kernel
theorem d_W_law_418 : decode m_W_law.2.1 418 = .ok (.invokevirtual 59, 3) := by decide +kernel
theorem d_W_law_421 : decode m_W_law.2.1 421 = .ok (.aload_n 2, 1) := by decide +kernel
theorem d_W_law_422 : decode m_W_law.2.1 422 = .ok (.aload_n 0, 1) := by decide +kernel
theorem d_W_law_423 : decode m_W_law.2.1 423 = .ok (.iload_n 3, 1) := by decide +kernel
theorem d_W_law_424 : decode m_W_law.2.1 424 = .ok (.iconst 1, 1) := by decide +kernel
theorem d_W_law_425 : decode m_W_law.2.1 425 = .ok (.iadd, 1) := by decide +kernel
theorem d_W_law_426 : decode m_W_law.2.1 426 = .ok (.iaload, 1) := by decide +kernel
theorem d_W_law_427 : decode m_W_law.2.1 427 = .ok (.invokevirtual 62, 3) := by decide +kernel
theorem d_W_law_430 : decode m_W_law.2.1 430 = .ok (.if_icmp .eq 5, 3) := by decide +kernel
theorem d_W_law_433 : decode m_W_law.2.1 433 = .ok (.iconst 0, 1) := by decide +kernel
theorem d_W_law_434 : decode m_W_law.2.1 434 = .ok (.ireturn, 1) := by decide +kernel
theorem d_W_law_435 : decode m_W_law.2.1 435 = .ok (.iinc 3 5, 3) := by decide +kernel
theorem d_W_law_438 : decode m_W_law.2.1 438 = .ok (.goto (-420), 3) := by decide +kernel
theorem d_W_law_441 : decode m_W_law.2.1 441 = .ok (.iconst 1, 1) := by decide +kernel
theorem d_W_law_442 : decode m_W_law.2.1 442 = .ok (.ireturn, 1) := by decide +kernel
end
section
/-! THE KERNEL: a memory as functions; G: a walk of one method over such a memory, all else of the machine hidden; Run: a method's contract in these words -/
abbrev Mm : Type := (Nat → Option (Nat × Nat × Nat)) × (Nat → Nat → Int32) × (Nat → Nat → Option Nat)
def kd (M : Mm) (a : Nat) : Option (Nat × Nat × Nat) := M.1 a
def gi (M : Mm) (a f : Nat) : Int32 := M.2.1 a f
def gr (M : Mm) (a f : Nat) : Option Nat := M.2.2 a f
def si (M : Mm) (a f : Nat) (x : Int32) : Mm := (M.1, fun b g => if g = f ∧ b = a then x else M.2.1 b g, M.2.2)
def sr (M : Mm) (a f : Nat) (x : Option Nat) : Mm := (M.1, M.2.1, fun b g => if g = f ∧ b = a then x else M.2.2 b g)
def nw (M : Mm) (a κ τ N : Nat) : Mm := (fun b => if b = a then some (κ, τ, N) else M.1 b, fun b f => if b = a then 0 else M.2.1 b f, fun b f => if b = a then none else M.2.2 b f)
theorem kd_si (M : Mm) (a f : Nat) (x : Int32) (b : Nat) : kd (si M a f x) b = kd M b := rfl
theorem kd_sr (M : Mm) (a f : Nat) (x : Option Nat) (b : Nat) : kd (sr M a f x) b = kd M b := rfl
theorem gr_si (M : Mm) (a f : Nat) (x : Int32) (b g : Nat) : gr (si M a f x) b g = gr M b g := rfl
theorem gi_sr (M : Mm) (a f : Nat) (x : Option Nat) (b g : Nat) : gi (sr M a f x) b g = gi M b g := rfl
theorem gi_si (M : Mm) (a f : Nat) (x : Int32) (b g : Nat) : gi (si M a f x) b g = if g = f ∧ b = a then x else gi M b g := rfl
theorem gr_sr (M : Mm) (a f : Nat) (x : Option Nat) (b g : Nat) : gr (sr M a f x) b g = if g = f ∧ b = a then x else gr M b g := rfl
theorem kd_nw (M : Mm) (a κ τ N b : Nat) : kd (nw M a κ τ N) b = if b = a then some (κ, τ, N) else kd M b := rfl
theorem gi_nw (M : Mm) (a κ τ N b f : Nat) : gi (nw M a κ τ N) b f = if b = a then 0 else gi M b f := rfl
theorem gr_nw (M : Mm) (a κ τ N b f : Nat) : gr (nw M a κ τ N) b f = if b = a then none else gr M b f := rfl
theorem gi_si_s (M : Mm) (a f : Nat) (x : Int32) : gi (si M a f x) a f = x := by rw [gi_si, if_pos ⟨rfl, rfl⟩]
theorem gi_si_f {f g : Nat} (h : g ≠ f) (M : Mm) (a b : Nat) (x : Int32) : gi (si M a f x) b g = gi M b g := by rw [gi_si, if_neg (fun q => h (And.left q))]
theorem gi_si_a {a b : Nat} (h : b ≠ a) (M : Mm) (f g : Nat) (x : Int32) : gi (si M a f x) b g = gi M b g := by rw [gi_si, if_neg (fun q => h (And.right q))]
theorem gr_sr_s (M : Mm) (a f : Nat) (x : Option Nat) : gr (sr M a f x) a f = x := by rw [gr_sr, if_pos ⟨rfl, rfl⟩]
theorem gr_sr_f {f g : Nat} (h : g ≠ f) (M : Mm) (a b : Nat) (x : Option Nat) : gr (sr M a f x) b g = gr M b g := by rw [gr_sr, if_neg (fun q => h (And.left q))]
theorem gr_sr_a {a b : Nat} (h : b ≠ a) (M : Mm) (f g : Nat) (x : Option Nat) : gr (sr M a f x) b g = gr M b g := by rw [gr_sr, if_neg (fun q => h (And.right q))]
def kInt (t : FieldType) : Bool := match t with
  | .int => true
  | .boolean => true
  | _ => false
/-- the value in field k of an object of class ci -/
def sv (M : Mm) (a ci k : Nat) : Value := if kInt (kTy ci k) = true then .int (gi M a (64 * ci + k)) else va_rf (gr M a (64 * ci + k))
/-- the value in place i of an array of t -/
def ev (M : Mm) (a : Nat) (t : FieldType) (i : Nat) : Value := if kInt t = true then .int (gi M a (4096 + i)) else va_rf (gr M a (4096 + i))
def mm_at (D : va_G) (dA : Nat → ClassId) (M : Mm) (a κ N : Nat) (H : Heap) : Prop := match kAty κ with
  | none => ∃ r : vw_C, kCl[κ]? = some r ∧ r.2.2 = N ∧ t_OB a (D.1 κ) N (D.2 κ) H (sv M a κ)
  | some t => H[a]? = some (arrV (dA κ) N (ev M a t))
def Rp (D : va_G) (dA : Nat → ClassId) (M : Mm) (H : Heap) : Prop := ∀ a κ τ N : Nat, kd M a = some (κ, τ, N) → mm_at D dA M a κ N H
/-- the links to private members of nest mates -/
def kNest : List (String × Nat × MethodName) := [("FiberDesk", 30, m_L_init.1), ("FiberDesk", 64, m_P_init.1), ("FiberDesk$Place", 25, m_L_init.1), ("FiberDesk$Fiber", 153, m_D_joined.1)]
/-- the classes over which arrays are made -/
def kArr : List String := ["FiberDesk$Effect", "FiberDesk$Fiber", "FiberDesk$Place"]
def Kw (D : va_G) (dA : Nat → ClassId) (U : State) : Prop := (∀ (c : Nat) (q : vw_C), kCl[c]? = some q → u_Kn U q.1 q.2.1 q.2.2 (D.1 c) (D.2 c)) ∧ (∀ (κ : Nat) (t : FieldType), kAty κ = some t → ArrOfT U (dA κ) t ∧ va_RA U (dA κ) t) ∧ (∀ q ∈ kNest, va_Nw (.methodLinkNest q.1 q.2.1 q.2.2 "FiberDesk") U) ∧ ∀ C ∈ kArr, va_AO C U
theorem Kw.moved {D : va_G} {dA : Nat → ClassId} {u U : State} (hW : u.WarmedH U.vm) (h : Kw D dA u) : Kw D dA U := ⟨fun c q hq => u_Kn_moved hW.alike (h.1 c q hq), fun κ t hk => ⟨arrOfT_moved hW.alike (h.2.1 κ t hk).1, (h.2.1 κ t hk).2.moved hW.alike⟩, fun q hq => va_Nw.warmM hW (h.2.2.1 q hq), fun C hC => va_AO.moved hW.alike (h.2.2.2 C hC)⟩
theorem Kw.same {D : va_G} {dA : Nat → ClassId} {u U : State} (hv : u.vm = U.vm) (h : Kw D dA u) : Kw D dA U := by
  have ha : u.vm.Alike U.vm := by rw [hv]; exact Vm.Alike.refl U.vm
  exact ⟨fun c q hq => u_Kn_moved ha (h.1 c q hq), fun κ t hk => ⟨arrOfT_moved ha (h.2.1 κ t hk).1, (h.2.1 κ t hk).2.moved ha⟩, fun q hq => va_Nw.same rfl hv (h.2.2.1 q hq), fun C hC => va_AO.moved ha (h.2.2.2 C hC)⟩
/-- what the class's static table holds -/
def kParts : List Int32 := [0, 0, 0, 0, 2, 3, 2, 3, 1, 1, 1, 1, 1, 0, 0, 2, 0, 0, 0, 0, 0, 0, 0, 0, 0, 2]
/-- where the old arrays lie: the static table; the script, its length, its numbers -/
abbrev Pa : Type := Nat × Nat × Nat × (Nat → Int32)
/-- the law's own ghost memory names the script -/
def Pt1 (mi : MI) (M : Mm) (pa : Pa) : Prop := mi.1.cls = "FiberDeskLaw" → gr M 0 0 = some pa.2.1 ∧ gr M 0 1 = some pa.2.2.1 ∧ ∀ j, gi M 0 (4096 + j) = pa.2.2.2 j
def Zs (pa : Pa) (A : Nat → Prop) (U : State) (H : Heap) : Prop := va_Z "FiberDesk" "PARTS" "[I" (.ref pa.1) A U H ∧ (va_X pa.1 26 (fun j => kParts.getD j 0) U H ∧ ¬ A pa.1) ∧ va_X pa.2.1 pa.2.2.1 pa.2.2.2 U H ∧ ¬ A pa.2.1
theorem Zs.moved {pa : Pa} {A : Nat → Prop} {u U : State} {H : Heap} (hvm : u.vm.Alike U.vm) (h : Zs pa A u H) : Zs pa A U H := ⟨va_Z.moved hvm h.1, ⟨va_X.moved hvm h.2.1.1, h.2.1.2⟩, va_X.moved hvm h.2.2.1, h.2.2.2⟩
/-- cells stay; those of a kind that isn't owned hold what they held -/
def Fr (own : Nat → Nat → Bool) (M0 M : Mm) : Prop := ∀ a κ τ N : Nat, kd M0 a = some (κ, τ, N) → kd M a = some (κ, τ, N) ∧ (own κ τ = false → ∀ f : Nat, gi M a f = gi M0 a f ∧ gr M a f = gr M0 a f)
theorem Fr.refl (own : Nat → Nat → Bool) (M : Mm) : Fr own M M := fun _ _ _ _ h => ⟨h, fun _ _ => ⟨rfl, rfl⟩⟩
theorem Fr.trans {own : Nat → Nat → Bool} {M0 M1 M2 : Mm} (h : Fr own M0 M1) (h' : Fr own M1 M2) : Fr own M0 M2 := fun a κ τ N q => by
  obtain ⟨h1, h2⟩ := h a κ τ N q
  obtain ⟨h3, h4⟩ := h' a κ τ N h1
  exact ⟨h3, fun o f => ⟨(h4 o f).1.trans (h2 o f).1, (h4 o f).2.trans (h2 o f).2⟩⟩
theorem Fr.mono {own own' : Nat → Nat → Bool} {M0 M1 : Mm} (hle : ∀ κ τ, own' κ τ = true → own κ τ = true) (h : Fr own' M0 M1) : Fr own M0 M1 := fun a κ τ N q => by
  obtain ⟨h1, h2⟩ := h a κ τ N q
  refine ⟨h1, fun o f => h2 ?_ f⟩
  cases e : own' κ τ with
  | false => rfl
  | true => rw [hle κ τ e] at o; cases o
theorem Fr.si {own : Nat → Nat → Bool} {M0 M : Mm} (h : Fr own M0 M) {a κ τ N : Nat} (hk : kd M a = some (κ, τ, N)) (ho : own κ τ = true) (f : Nat) (x : Int32) : Fr own M0 (si M a f x) := fun b κ' τ' N' q => by
  obtain ⟨h1, h2⟩ := h b κ' τ' N' q
  refine ⟨h1, fun o g => ⟨?_, (h2 o g).2⟩⟩
  by_cases hb : b = a
  · subst hb
    rw [h1] at hk
    cases hk
    rw [ho] at o
    cases o
  · rw [gi_si_a hb]
    exact (h2 o g).1
theorem Fr.sr {own : Nat → Nat → Bool} {M0 M : Mm} (h : Fr own M0 M) {a κ τ N : Nat} (hk : kd M a = some (κ, τ, N)) (ho : own κ τ = true) (f : Nat) (x : Option Nat) : Fr own M0 (sr M a f x) := fun b κ' τ' N' q => by
  obtain ⟨h1, h2⟩ := h b κ' τ' N' q
  refine ⟨h1, fun o g => ⟨(h2 o g).1, ?_⟩⟩
  by_cases hb : b = a
  · subst hb
    rw [h1] at hk
    cases hk
    rw [ho] at o
    cases o
  · rw [gr_sr_a hb]
    exact (h2 o g).2
theorem Fr.nw {own : Nat → Nat → Bool} {M0 M : Mm} (h : Fr own M0 M) {a : Nat} (hk : kd M a = none) (κ τ N : Nat) : Fr own M0 (nw M a κ τ N) := fun b κ' τ' N' q => by
  obtain ⟨h1, h2⟩ := h b κ' τ' N' q
  have hb : b ≠ a := fun e => by rw [e, hk] at h1; cases h1
  refine ⟨by rw [kd_nw, if_neg hb]; exact h1, fun o g => ⟨?_, ?_⟩⟩
  · rw [gi_nw, if_neg hb]; exact (h2 o g).1
  · rw [gr_nw, if_neg hb]; exact (h2 o g).2
theorem cat_rf (o : Option Nat) : (va_rf o).category = 1 := by cases o <;> rfl
theorem cat_int (x : Int32) : (Value.int x).category = 1 := rfl
/-! the cells over a heap that moves -/
theorem mm_at.kept {D : va_G} {dA : Nat → ClassId} {M : Mm} {a κ N : Nat} {H H1 : Heap} (h : mm_at D dA M a κ N H) (hq : H1[a]? = H[a]?) : mm_at D dA M a κ N H1 := by
  unfold mm_at at h ⊢
  split at h
  · obtain ⟨r, h1, h2, h3⟩ := h
    exact ⟨r, h1, h2, h3.kept hq⟩
  · rw [hq]; exact h
theorem mm_at.lt {D : va_G} {dA : Nat → ClassId} {M : Mm} {a κ N : Nat} {H : Heap} (h : mm_at D dA M a κ N H) : a < H.size := by
  unfold mm_at at h
  split at h
  · obtain ⟨r, h1, h2, cell, h3, -⟩ := h
    exact (Array.getElem?_eq_some_iff.mp h3).1
  · exact (Array.getElem?_eq_some_iff.mp h).1
theorem mm_at.same {D : va_G} {dA : Nat → ClassId} {M M1 : Mm} {a κ N : Nat} {H : Heap} (h : mm_at D dA M a κ N H) (hi : ∀ f, gi M1 a f = gi M a f) (hr : ∀ f, gr M1 a f = gr M a f) : mm_at D dA M1 a κ N H := by
  have e1 : sv M1 a κ = sv M a κ := by funext k; unfold sv; rw [hi, hr]
  have e2 : ∀ t, ev M1 a t = ev M a t := by intro t; funext k; unfold ev; rw [hi, hr]
  unfold mm_at at h ⊢
  split at h
  · rw [e1]; exact h
  · rw [e2]; exact h
theorem Rp.fresh {D : va_G} {dA : Nat → ClassId} {M : Mm} {H : Heap} (h : Rp D dA M H) : kd M H.size = none := by
  cases e : kd M H.size with
  | none => rfl
  | some q => exact absurd (h H.size q.1 q.2.1 q.2.2 e).lt (Nat.lt_irrefl _)
/-! locals: places that are not set are 'none' -/
def lp (L : List (Option Value)) : List (Nat × Value) := (List.range L.length).filterMap (fun j => (L[j]?.join).map (fun v => (j, v)))
def Lh (ls : Array Slot) (nL : Nat) (L : List (Option Value)) : Prop := lv_has ls nL (lp L) ∧ L.length = nL ∧ ∀ (i : Nat) (v : Value), L[i]? = some (some v) → v.category = 1
theorem lp_mem {L : List (Option Value)} {i : Nat} {v : Value} (h : L[i]? = some (some v)) : (i, v) ∈ lp L := by
  refine List.mem_filterMap.mpr ⟨i, List.mem_range.mpr (List.getElem?_eq_some_iff.mp h).1, ?_⟩
  rw [h]; rfl
theorem lp_of {L : List (Option Value)} {q : Nat × Value} (h : q ∈ lp L) : L[q.1]? = some (some q.2) := by
  obtain ⟨i, -, hi⟩ := List.mem_filterMap.mp h
  cases e : L[i]? with
  | none => rw [e] at hi; cases hi
  | some o =>
    rw [e] at hi
    cases o with
    | none => cases hi
    | some v => cases hi; exact e
theorem Lh.at {ls : Array Slot} {nL : Nat} {L : List (Option Value)} (h : Lh ls nL L) {i : Nat} {v : Value} (hi : L[i]? = some (some v)) : ls[i]? = some (.val v) := h.1.2.2 (i, v) (lp_mem hi)
theorem Lh.set {ls ls' : Array Slot} {nL : Nat} {L : List (Option Value)} (h : Lh ls nL L) {i : Nat} {v : Value} (hn : i < nL) (hv : v.category = 1) (h' : lv_has ls' nL ((i, v) :: (lp L).filter (fun q => !(q.1 == i) && !(q.1 + 1 == i && q.2.category == 2)))) : Lh ls' nL (L.set i (some v)) := by
  have key : ∀ (j : Nat) (w : Value), (L.set i (some v))[j]? = some (some w) → (j = i ∧ w = v) ∨ (j ≠ i ∧ L[j]? = some (some w)) := by
    intro j w hj
    by_cases e : j = i
    · subst e
      rw [List.getElem?_set_self (by rw [h.2.1]; exact hn)] at hj
      cases hj
      exact Or.inl ⟨rfl, rfl⟩
    · rw [List.getElem?_set_ne (Ne.symm e)] at hj
      exact Or.inr ⟨e, hj⟩
  refine ⟨⟨h'.1, h'.2.1, fun q hq => ?_⟩, by rw [List.length_set]; exact h.2.1, fun j w hj => ?_⟩
  · rcases key q.1 q.2 (lp_of hq) with ⟨e1, e2⟩ | ⟨e1, e2⟩
    · have e : q = (i, v) := Prod.ext e1 e2
      rw [e]
      exact h'.2.2 _ List.mem_cons_self
    · refine h'.2.2 _ (List.mem_cons_of_mem _ (List.mem_filter.mpr ⟨lp_mem e2, ?_⟩))
      have hc := h.2.2 q.1 q.2 e2
      simp [e1, hc]
  · rcases key j w hj with ⟨-, e2⟩ | ⟨-, e2⟩
    · rw [e2]; exact hv
    · exact h.2.2 j w e2
theorem lv_args_at (vs : List Value) (hc : ∀ v ∈ vs, v.category = 1) : ∀ (i j : Nat) (v : Value), vs[j]? = some v → (i + j, v) ∈ lv_args i vs := by
  induction vs with
  | nil => intro i j v h; simp at h
  | cons w vs ih =>
    intro i j v h
    have hw : ¬ w.category = 2 := by rw [hc w List.mem_cons_self]; decide
    unfold lv_args
    rw [if_neg hw]
    cases j with
    | zero =>
      rw [List.getElem?_cons_zero] at h
      cases h
      exact List.mem_cons_self
    | succ j =>
      rw [List.getElem?_cons_succ] at h
      have := ih (fun v hv => hc v (List.mem_cons_of_mem _ hv)) (i + 1) j v h
      rw [show i + (j + 1) = i + 1 + j by omega]
      exact List.mem_cons_of_mem _ this
theorem lg_sl_len (vs : List Value) (hc : ∀ v ∈ vs, v.category = 1) : (lg_sl vs).length = vs.length := by
  induction vs with
  | nil => rfl
  | cons w vs ih =>
    have hw : ¬ w.category = 2 := by rw [hc w List.mem_cons_self]; decide
    have := ih (fun v hv => hc v (List.mem_cons_of_mem _ hv))
    unfold lg_sl at this ⊢
    rw [List.flatMap_cons, if_neg hw, List.length_append, this]
    simp [Nat.add_comm]
theorem Lh.entry (vs : List Value) (hc : ∀ v ∈ vs, v.category = 1) {n : Nat} (hn : vs.length ≤ n) : Lh ((lg_sl vs ++ List.replicate (n - (lg_sl vs).length) Slot.unset).toArray) n (vs.map some ++ List.replicate (n - vs.length) none) := by
  have hl := lg_sl_len vs hc
  have h := lv_entry vs (n := n) (by rw [hl]; exact hn)
  have key : ∀ (j : Nat) (w : Value), (vs.map some ++ List.replicate (n - vs.length) none)[j]? = some (some w) → vs[j]? = some w := by
    intro j w hj
    by_cases e : j < vs.length
    · rw [List.getElem?_append_left (by simpa using e), List.getElem?_map] at hj
      cases q : vs[j]? with
      | none => rw [q] at hj; cases hj
      | some z => rw [q] at hj; cases hj; rfl
    · rw [List.getElem?_append_right (by simpa using e)] at hj
      have := (List.getElem?_eq_some_iff.mp hj)
      obtain ⟨a, b⟩ := this
      simp at b
  refine ⟨⟨h.1, h.2.1, fun q hq => ?_⟩, by simp; omega, fun j w hj => hc w (List.mem_of_getElem? (key j w hj))⟩
  have := lv_args_at vs hc 0 q.1 q.2 (key _ _ (lp_of hq))
  rw [Nat.zero_add] at this
  exact h.2.2 _ this
end
section
/-! THE JUDGEMENTS -/
def kWs (mi : MI) : List Cond := Cond.code mi.1 mi.2.1 mi.2.2.1 mi.2.2.2 :: kTB
def kLW : Nat := 37
def kRm (dep k n : Nat) : Room := { frames := dep, cells := k, slots := n, locals := dep * kLW }
/-- the memory M over the heap H of a walk that began in s with M0 -/
def Mx (own : Nat → Nat → Bool) (M0 M : Mm) (D : va_G) (dA : Nat → ClassId) (A : Nat → Prop) (s : State) (H : Heap) (locs : List Loc) : Prop :=
  Rp D dA M H ∧ Fr own M0 M ∧ (∀ q κ τ N : Nat, kd M q = some (κ, τ, N) → kd M0 q = some (κ, τ, N) ∨ A q) ∧ va_S A s.heap H locs
/-- a return: the stack, the instruction, the answer -/
def Rt (mi : MI) (r : Option Value) (pc : Nat) (st : List Value) : Prop :=
  (∃ (x : Int32) (ty : FieldType), r = some (.int x) ∧ st = [.int x] ∧ decode mi.2.1 pc = .ok (.ireturn, 1) ∧ mi.2.2.2 = some ty ∧ narrow ty (.int x) = .int x) ∨
  (∃ (o : Option Nat) (ty : FieldType), r = some (va_rf o) ∧ st = [va_rf o] ∧ decode mi.2.1 pc = .ok (.areturn, 1) ∧ mi.2.2.2 = some ty ∧ ((∃ n, ty = .object n) ∨ ∃ t, ty = .array t)) ∨
  (r = none ∧ st = [] ∧ decode mi.2.1 pc = .ok (.return_, 1) ∧ mi.2.2.2 = none)
def Cx (mi : MI) (dep : Nat) (own : Nat → Nat → Bool) (M0 : Mm) (Q : Option Value → Mm → Prop) (p : Program) (l : Launch) (e : Env) (R : Room) (s : State) (m : MethodId) (args : Array Value) (below : List Frame) (meth : Method) (c : Code) (D : va_G) (dA : Nat → ClassId) (pa : Pa) (A : Nat → Prop) (mc ms : Nat) (Z : State → Prop) : Prop :=
  p.tables.exec = Jvm.exec ∧ c.code = mi.2.1 ∧ c.maxLocals = mi.2.2.1 ∧ s.vm.findClass mi.1.cls = some m.cls ∧ (∀ w ∈ kTB, w.before args s = true) ∧ meth.name = mi.1.name ∧ Kw D dA s ∧ (∀ q : Nat, s.heap.size ≤ q → A q) ∧ (∀ q κ τ N : Nat, kd M0 q = some (κ, τ, N) → own κ τ = true → A q) ∧ mc ≤ R.cells ∧ ms ≤ R.slots ∧ dep ≤ R.frames ∧ dep * kLW ≤ R.locals ∧ (Pt1 mi M0 pa ∧ True ∧ Zs pa A s s.heap) ∧
  ∀ (r : Option Value) (M' : Mm) (H' : Heap) (locs' : List Loc) (pc' : Nat) (ls' : Array Slot) (st' : List Value), Mx own M0 M' D dA A s H' locs' → Q r M' → Rt mi r pc' st' → W p l e R s m args below meth c H' locs' mc ms Z (F0 m pc' ls' st')
def G (mi : MI) (own : Nat → Nat → Bool) (M0 : Mm) (Q : Option Value → Mm → Prop) (dep k n : Nat) (M : Mm) (pc : Nat) (L : List (Option Value)) (st : List Value) : Prop :=
  ∀ (p : Program) (l : Launch) (e : Env) (R : Room) (s : State) (m : MethodId) (args : Array Value) (below : List Frame) (meth : Method) (c : Code) (D : va_G) (dA : Nat → ClassId) (pa : Pa) (A : Nat → Prop) (mc ms : Nat) (Z : State → Prop) (H : Heap) (locs : List Loc) (cells slots : Nat) (ls : Array Slot),
    Cx mi dep own M0 Q p l e R s m args below meth c D dA pa A mc ms Z → Mx own M0 M D dA A s H locs → Lh ls mi.2.2.1 L → cells + k ≤ mc → slots + n ≤ ms → W p l e R s m args below meth c H locs cells slots Z (F0 m pc ls st)
/-- the contract of a method in these words: with these arguments, over this memory, it returns, and what it answers and leaves is Q; at most k cells of n slots are new, at most dep frames stand above it -/
def Run (mi : MI) (own : Nat → Nat → Bool) (dep k n : Nat) (av : List Value) (M : Mm) (Q : Option Value → Mm → Prop) : Prop :=
  ∀ (l : Launch) (D : va_G) (dA : Nat → ClassId) (pa : Pa) (A : Nat → Prop) (sz : Nat), (∀ q : Nat, sz ≤ q → A q) → (∀ q κ τ N : Nat, kd M q = some (κ, τ, N) → own κ τ = true → A q) →
    Met l mi.1 (kWs mi) (kRm dep k n) (va_Pc av (fun U => U.heap.size = sz ∧ Rp D dA M U.heap ∧ Kw D dA U ∧ Zs pa A U U.heap))
      (fun _ st oc t => (∃ (r : Option Value) (M' : Mm), oc = .returned r ∧ Q r M' ∧ Fr own M M' ∧ Rp D dA M' t.heap ∧ Kw D dA t ∧ ∀ q κ τ N : Nat, kd M' q = some (κ, τ, N) → kd M q = some (κ, τ, N) ∨ A q) ∧ va_F A st t) k n A
section RunOf
variable {mi : MI} {own : Nat → Nat → Bool} {Q : Option Value → Mm → Prop} {dep k n : Nat} {M : Mm} {av : List Value}
theorem Run.ofG (hy : plainName mi.1.cls = true ∧ ¬ mi.1.cls = "FiberDeskLaw") (hc : ∀ v ∈ av, v.category = 1) (hn : av.length ≤ mi.2.2.1) (h : G mi own M Q dep k n M 0 (av.map some ++ List.replicate (mi.2.2.1 - av.length) none) []) : Run mi own dep k n av M Q := by
  intro l D dA pa A sz hA hAM
  refine Met.ofW (cc := mi.2.1) (maxL := mi.2.2.1) (ret := mi.2.2.2) hy.1 rfl ?_
  intro p e s m args below meth c s₁ B hml hv
  obtain ⟨rfl, hsz, hR, hK, hZs⟩ := hv
  have hx := B.exec
  have hb := B.bytes
  have hr := B.returns
  have hts0 := atoms_spec (ws := kWs mi) B.pre
  have hts : ∀ w ∈ kTB, w.before av.toArray s = true := fun w hw => hts0 w (List.mem_cons_of_mem _ hw)
  have hown : s.vm.findClass mi.1.cls = some m.cls := findClass_of_methodNamed B.named
  have hlocks := B.notSynchronized
  have hnm : meth.name = mi.1.name := (name_of_methodNamed B.named B.method).1
  subst hsz
  rw [lg_entry_eq]
  refine h p l e (kRm dep k n) s m av.toArray below meth c D dA pa A k n _ s.heap [] 0 0 _ ⟨hx, hb, hml, hown, hts, hnm, hK, hA, hAM, Nat.le_refl _, Nat.le_refl _, Nat.le_refl _, Nat.le_refl _, ⟨fun q => absurd q hy.2, trivial, hZs⟩, ?_⟩ ⟨hR, Fr.refl own M, fun _ _ _ _ h => Or.inl h, va_S.rf⟩ (Lh.entry av hc hn) (by omega) (by omega)
  intro r M' H' locs' pc' ls' st' hM hQ hRt
  obtain ⟨m1, m2, m3, m4⟩ := hM
  have post : ∀ t : State, t.heap = H' → s.WarmedH t.vm → (∃ (r2 : Option Value) (M2 : Mm), Outcome.returned r = .returned r2 ∧ Q r2 M2 ∧ Fr own M M2 ∧ Rp D dA M2 t.heap ∧ Kw D dA t ∧ ∀ q κ τ N : Nat, kd M2 q = some (κ, τ, N) → kd M q = some (κ, τ, N) ∨ A q) ∧ va_F A s t := by
    intro t ht hW
    exact ⟨⟨r, M', rfl, hQ, m2, by rw [ht]; exact m1, Kw.moved hW hK, m3⟩, m4.F ht⟩
  rcases hRt with ⟨x, ty, rfl, rfl, hd, hty, hnr⟩ | ⟨o, ty, rfl, rfl, hd, hty, hob⟩ | ⟨rfl, rfl, hd, hty⟩
  · exact W.zret (ty := ty) hx hb (hr.trans hty) hnr post m4.2.2 hd
  · exact W.aret (rt := ty) hx hb (hr.trans hty) hob (va_rf_or o) post m4.2.2 hd
  · exact W.vret hx hb (hr.trans hty) post m4.2.2 hd
theorem Run.weak {Q' : Option Value → Mm → Prop} (h : Run mi own dep k n av M Q) (hq : ∀ r M', Q r M' → Fr own M M' → Q' r M') : Run mi own dep k n av M Q' := by
  intro l D dA pa A sz hA hAM p e ha hc hk s m args below hf happ hp hk'
  obtain ⟨n', o, h1, h2, h3, ⟨⟨r, M', e1, e2, e3, e4⟩, e5⟩, e6⟩ := h l D dA pa A sz hA hAM p e ha hc hk s m args below hf happ hp hk'
  exact ⟨n', o, h1, h2, h3, ⟨⟨r, M', e1, hq r M' e2 e3, e3, e4⟩, e5⟩, e6⟩
end RunOf
section Rules
variable {mi : MI} {own : Nat → Nat → Bool} {M0 : Mm} {Q : Option Value → Mm → Prop} {dep k n : Nat} {M : Mm} {pc : Nat} {L : List (Option Value)} {st : List Value}
/-- a step that moves neither memory nor locals -/
theorem g_go {pc' : Nat} {st' : List Value} (h : ∀ {p : Program} {l : Launch} {e : Env} {R : Room} {s : State} {m : MethodId} {args : Array Value} {below : List Frame} {meth : Method} {c : Code} {Z : State → Prop} {H : Heap} {locs : List Loc} {cells slots : Nat} {ls : Array Slot}, p.tables.exec = Jvm.exec → c.code = mi.2.1 → s.vm.findClass mi.1.cls = some m.cls → (∀ w ∈ kTB, w.before args s = true) → Lh ls mi.2.2.1 L → W p l e R s m args below meth c H locs cells slots Z (F0 m pc' ls st') → W p l e R s m args below meth c H locs cells slots Z (F0 m pc ls st)) (kk : G mi own M0 Q dep k n M pc' L st') : G mi own M0 Q dep k n M pc L st := by
  intro p l e R s m args below meth c D dA pa A mc ms Z H locs cells slots ls C X hl h1 h2
  exact h C.1 C.2.1 C.2.2.2.1 C.2.2.2.2.1 hl (kk p l e R s m args below meth c D dA pa A mc ms Z H locs cells slots ls C X hl h1 h2)
theorem g_iconst {z : Int} {v : Int32} (hd : decode mi.2.1 pc = .ok (.iconst z, 1)) (hv : Int32.ofInt z = v) (kk : G mi own M0 Q dep k n M (pc + 1) L (.int v :: st)) : G mi own M0 Q dep k n M pc L st := g_go (fun hx hb _ _ _ w => lv_iconst hx hb hd hv w) kk
theorem g_bipush {z : Int} {v : Int32} (hd : decode mi.2.1 pc = .ok (.bipush z, 2)) (hv : (Int8.ofInt z).toInt32 = v) (kk : G mi own M0 Q dep k n M (pc + 2) L (.int v :: st)) : G mi own M0 Q dep k n M pc L st := g_go (fun hx hb _ _ _ w => lv_bipush hx hb hd hv w) kk
theorem g_sipush {z : Int} {v : Int32} (hd : decode mi.2.1 pc = .ok (.sipush z, 3)) (hv : (Int16.ofInt z).toInt32 = v) (kk : G mi own M0 Q dep k n M (pc + 3) L (.int v :: st)) : G mi own M0 Q dep k n M pc L st := g_go (fun hx hb _ _ _ w => lv_sipush hx hb hd hv w) kk
theorem g_ldc {index : Nat} {v : Int32} (hd : decode mi.2.1 pc = .ok (.ldc index, 2)) (hw : Cond.constant mi.1.cls index v ∈ kTB) (kk : G mi own M0 Q dep k n M (pc + 2) L (.int v :: st)) : G mi own M0 Q dep k n M pc L st := g_go (fun hx hb ho ht _ w => lv_ldc hx hb ho (ht _ hw) hd w) kk
theorem g_null (hd : decode mi.2.1 pc = .ok (.aconst_null, 1)) (kk : G mi own M0 Q dep k n M (pc + 1) L (va_rf none :: st)) : G mi own M0 Q dep k n M pc L st := g_go (fun hx hb _ _ _ w => lv_null hx hb hd w) kk
theorem g_iload_n {i : Fin 4} {x : Int32} (hd : decode mi.2.1 pc = .ok (.iload_n i, 1)) (hl : L[(i : Nat)]? = some (some (.int x))) (kk : G mi own M0 Q dep k n M (pc + 1) L (.int x :: st)) : G mi own M0 Q dep k n M pc L st := g_go (fun hx hb _ _ l w => lv_iload_n hx hb hd rfl (l.at hl) w) kk
theorem g_iload {i : Nat} {x : Int32} (hd : decode mi.2.1 pc = .ok (.iload i, 2)) (hl : L[i]? = some (some (.int x))) (kk : G mi own M0 Q dep k n M (pc + 2) L (.int x :: st)) : G mi own M0 Q dep k n M pc L st := g_go (fun hx hb _ _ l w => lv_iload hx hb hd (l.at hl) w) kk
theorem g_aload_n {i : Fin 4} {o : Option Nat} (hd : decode mi.2.1 pc = .ok (.aload_n i, 1)) (hl : L[(i : Nat)]? = some (some (va_rf o))) (kk : G mi own M0 Q dep k n M (pc + 1) L (va_rf o :: st)) : G mi own M0 Q dep k n M pc L st := by
  cases o with
  | none => exact g_go (fun hx hb _ _ l w => lv_aload_nN hx hb hd rfl (l.at hl) w) kk
  | some a => exact g_go (fun hx hb _ _ l w => lv_aload_n hx hb hd rfl (l.at hl) w) kk
theorem g_aload {i : Nat} {o : Option Nat} (hd : decode mi.2.1 pc = .ok (.aload i, 2)) (hl : L[i]? = some (some (va_rf o))) (kk : G mi own M0 Q dep k n M (pc + 2) L (va_rf o :: st)) : G mi own M0 Q dep k n M pc L st := by
  cases o with
  | none => exact g_go (fun hx hb _ _ l w => lv_aloadN hx hb hd (l.at hl) w) kk
  | some a => exact g_go (fun hx hb _ _ l w => lv_aload hx hb hd (l.at hl) w) kk
theorem g_istore_n {i : Fin 4} {x : Int32} (hd : decode mi.2.1 pc = .ok (.istore_n i, 1)) (hn : (i : Nat) < mi.2.2.1) (kk : G mi own M0 Q dep k n M (pc + 1) (L.set (i : Nat) (some (.int x))) st) : G mi own M0 Q dep k n M pc L (.int x :: st) := by
  intro p l e R s m args below meth c D dA pa A mc ms Z H locs cells slots ls C X hl h1 h2
  exact lv_istore_n C.1 C.2.1 hd rfl hl.1 hn rfl (fun ls' hl' => kk p l e R s m args below meth c D dA pa A mc ms Z H locs cells slots ls' C X (hl.set hn rfl hl') h1 h2)
theorem g_istore {i : Nat} {x : Int32} (hd : decode mi.2.1 pc = .ok (.istore i, 2)) (hn : i < mi.2.2.1) (kk : G mi own M0 Q dep k n M (pc + 2) (L.set i (some (.int x))) st) : G mi own M0 Q dep k n M pc L (.int x :: st) := by
  intro p l e R s m args below meth c D dA pa A mc ms Z H locs cells slots ls C X hl h1 h2
  exact lv_istore C.1 C.2.1 hd hl.1 hn rfl (fun ls' hl' => kk p l e R s m args below meth c D dA pa A mc ms Z H locs cells slots ls' C X (hl.set hn rfl hl') h1 h2)
theorem g_astore_n {i : Fin 4} {o : Option Nat} (hd : decode mi.2.1 pc = .ok (.astore_n i, 1)) (hn : (i : Nat) < mi.2.2.1) (kk : G mi own M0 Q dep k n M (pc + 1) (L.set (i : Nat) (some (va_rf o))) st) : G mi own M0 Q dep k n M pc L (va_rf o :: st) := by
  intro p l e R s m args below meth c D dA pa A mc ms Z H locs cells slots ls C X hl h1 h2
  cases o with
  | none => exact lv_astore_nN C.1 C.2.1 hd rfl hl.1 hn rfl (fun ls' hl' => kk p l e R s m args below meth c D dA pa A mc ms Z H locs cells slots ls' C X (hl.set hn rfl hl') h1 h2)
  | some a => exact lv_astore_n C.1 C.2.1 hd rfl hl.1 hn rfl (fun ls' hl' => kk p l e R s m args below meth c D dA pa A mc ms Z H locs cells slots ls' C X (hl.set hn rfl hl') h1 h2)
theorem g_astore {i : Nat} {o : Option Nat} (hd : decode mi.2.1 pc = .ok (.astore i, 2)) (hn : i < mi.2.2.1) (kk : G mi own M0 Q dep k n M (pc + 2) (L.set i (some (va_rf o))) st) : G mi own M0 Q dep k n M pc L (va_rf o :: st) := by
  intro p l e R s m args below meth c D dA pa A mc ms Z H locs cells slots ls C X hl h1 h2
  cases o with
  | none => exact lv_astoreN C.1 C.2.1 hd hl.1 hn rfl (fun ls' hl' => kk p l e R s m args below meth c D dA pa A mc ms Z H locs cells slots ls' C X (hl.set hn rfl hl') h1 h2)
  | some a => exact lv_astore C.1 C.2.1 hd hl.1 hn rfl (fun ls' hl' => kk p l e R s m args below meth c D dA pa A mc ms Z H locs cells slots ls' C X (hl.set hn rfl hl') h1 h2)
theorem g_iinc {i : Nat} {z : Int} {x v : Int32} (hd : decode mi.2.1 pc = .ok (.iinc i z, 3)) (hl : L[i]? = some (some (.int x))) (hv : x + Int32.ofInt z = v) (hn : i < mi.2.2.1) (kk : G mi own M0 Q dep k n M (pc + 3) (L.set i (some (.int v))) st) : G mi own M0 Q dep k n M pc L st := by
  intro p l e R s m args below meth c D dA pa A mc ms Z H locs cells slots ls C X h h1 h2
  obtain ⟨j, hj⟩ := List.getElem?_of_mem (lp_mem hl)
  exact lv_iinc C.1 C.2.1 hd h.1 hj hv hn rfl (fun ls' hl' => kk p l e R s m args below meth c D dA pa A mc ms Z H locs cells slots ls' C X (h.set hn rfl hl') h1 h2)
theorem g_iadd {x y : Int32} (hd : decode mi.2.1 pc = .ok (.iadd, 1)) (kk : G mi own M0 Q dep k n M (pc + 1) L (.int (x + y) :: st)) : G mi own M0 Q dep k n M pc L (.int y :: .int x :: st) := g_go (fun hx hb _ _ _ w => lv_iadd hx hb hd w) kk
theorem g_isub {x y : Int32} (hd : decode mi.2.1 pc = .ok (.isub, 1)) (kk : G mi own M0 Q dep k n M (pc + 1) L (.int (x - y) :: st)) : G mi own M0 Q dep k n M pc L (.int y :: .int x :: st) := g_go (fun hx hb _ _ _ w => lv_isub hx hb hd w) kk
theorem g_imul {x y : Int32} (hd : decode mi.2.1 pc = .ok (.imul, 1)) (kk : G mi own M0 Q dep k n M (pc + 1) L (.int (x * y) :: st)) : G mi own M0 Q dep k n M pc L (.int y :: .int x :: st) := g_go (fun hx hb _ _ _ w => lv_imul hx hb hd w) kk
theorem g_ineg {x : Int32} (hd : decode mi.2.1 pc = .ok (.ineg, 1)) (kk : G mi own M0 Q dep k n M (pc + 1) L (.int (-x) :: st)) : G mi own M0 Q dep k n M pc L (.int x :: st) := g_go (fun hx hb _ _ _ w => lv_ineg hx hb hd (by first | exact w | simpa using w)) kk
theorem g_iand {x y : Int32} (hd : decode mi.2.1 pc = .ok (.iand, 1)) (kk : G mi own M0 Q dep k n M (pc + 1) L (.int (x &&& y) :: st)) : G mi own M0 Q dep k n M pc L (.int y :: .int x :: st) := g_go (fun hx hb _ _ _ w => lv_iand hx hb hd w) kk
theorem g_dupi {x : Int32} (hd : decode mi.2.1 pc = .ok (.dup, 1)) (kk : G mi own M0 Q dep k n M (pc + 1) L (.int x :: .int x :: st)) : G mi own M0 Q dep k n M pc L (.int x :: st) := g_go (fun hx hb _ _ _ w => lv_dup hx hb hd rfl w) kk
theorem g_dup {o : Option Nat} (hd : decode mi.2.1 pc = .ok (.dup, 1)) (kk : G mi own M0 Q dep k n M (pc + 1) L (va_rf o :: va_rf o :: st)) : G mi own M0 Q dep k n M pc L (va_rf o :: st) := g_go (fun hx hb _ _ _ w => lv_dup hx hb hd (cat_rf o) w) kk
theorem g_dup_x1 {v w : Value} (hd : decode mi.2.1 pc = .ok (.dup_x1, 1)) (hv : v.category = 1) (hw : w.category = 1) (kk : G mi own M0 Q dep k n M (pc + 1) L (v :: w :: v :: st)) : G mi own M0 Q dep k n M pc L (v :: w :: st) := g_go (fun hx hb _ _ _ w' => lv_dup_x1 hx hb hd hv hw w') kk
theorem g_dup_x2 {v w u : Value} (hd : decode mi.2.1 pc = .ok (.dup_x2, 1)) (hv : v.category = 1) (hw : w.category = 1) (hu : u.category = 1) (kk : G mi own M0 Q dep k n M (pc + 1) L (v :: w :: u :: v :: st)) : G mi own M0 Q dep k n M pc L (v :: w :: u :: st) := g_go (fun hx hb _ _ _ w' => lv_dup_x2 hx hb hd hv hw hu w') kk
theorem g_dup2 {v w : Value} (hd : decode mi.2.1 pc = .ok (.dup2, 1)) (hv : v.category = 1) (hw : w.category = 1) (kk : G mi own M0 Q dep k n M (pc + 1) L (v :: w :: v :: w :: st)) : G mi own M0 Q dep k n M pc L (v :: w :: st) := g_go (fun hx hb _ _ _ w' => lv_dup2_11 hx hb hd hv hw w') kk
theorem g_pop {v : Value} (hd : decode mi.2.1 pc = .ok (.pop, 1)) (hv : v.category = 1) (kk : G mi own M0 Q dep k n M (pc + 1) L st) : G mi own M0 Q dep k n M pc L (v :: st) := g_go (fun hx hb _ _ _ w' => lv_pop hx hb hd hv w') kk
theorem g_goto {off : Int} (tgt : Nat) (hd : decode mi.2.1 pc = .ok (.goto off, 3)) (ht : (pc : Int) + off = (tgt : Int)) (kk : G mi own M0 Q dep k n M tgt L st) : G mi own M0 Q dep k n M pc L st := g_go (fun hx hb _ _ _ w => lv_goto hx hb hd ht w) kk
/-- a step that goes one of two ways -/
theorem g_two {P P' : Prop} {pc1 pc2 : Nat} {st1 st2 : List Value} (h : ∀ {p : Program} {l : Launch} {e : Env} {R : Room} {s : State} {m : MethodId} {args : Array Value} {below : List Frame} {meth : Method} {c : Code} {Z : State → Prop} {H : Heap} {locs : List Loc} {cells slots : Nat} {ls : Array Slot}, p.tables.exec = Jvm.exec → c.code = mi.2.1 → (P → W p l e R s m args below meth c H locs cells slots Z (F0 m pc1 ls st1)) → (P' → W p l e R s m args below meth c H locs cells slots Z (F0 m pc2 ls st2)) → W p l e R s m args below meth c H locs cells slots Z (F0 m pc ls st)) (k1 : P → G mi own M0 Q dep k n M pc1 L st1) (k2 : P' → G mi own M0 Q dep k n M pc2 L st2) : G mi own M0 Q dep k n M pc L st := by
  intro p l e R s m args below meth c D dA pa A mc ms Z H locs cells slots ls C X hl h1 h2
  exact h C.1 C.2.1 (fun q => k1 q p l e R s m args below meth c D dA pa A mc ms Z H locs cells slots ls C X hl h1 h2) (fun q => k2 q p l e R s m args below meth c D dA pa A mc ms Z H locs cells slots ls C X hl h1 h2)
theorem g_if_eq {x : Int32} {off : Int} (tgt : Nat) (hd : decode mi.2.1 pc = .ok (.ifCond .eq off, 3)) (ht : (pc : Int) + off = (tgt : Int)) (k1 : x = 0 → G mi own M0 Q dep k n M tgt L st) (k2 : ¬ x = 0 → G mi own M0 Q dep k n M (pc + 3) L st) : G mi own M0 Q dep k n M pc L (.int x :: st) := g_two (fun hx hb w1 w2 => lv_if_eq hx hb hd ht w1 w2) k1 k2
theorem g_if_ne {x : Int32} {off : Int} (tgt : Nat) (hd : decode mi.2.1 pc = .ok (.ifCond .ne off, 3)) (ht : (pc : Int) + off = (tgt : Int)) (k1 : ¬ x = 0 → G mi own M0 Q dep k n M tgt L st) (k2 : x = 0 → G mi own M0 Q dep k n M (pc + 3) L st) : G mi own M0 Q dep k n M pc L (.int x :: st) := g_two (fun hx hb w1 w2 => lv_if_ne hx hb hd ht w1 w2) k1 k2
theorem g_if_lt {x : Int32} {off : Int} (tgt : Nat) (hd : decode mi.2.1 pc = .ok (.ifCond .lt off, 3)) (ht : (pc : Int) + off = (tgt : Int)) (k1 : x < 0 → G mi own M0 Q dep k n M tgt L st) (k2 : ¬ x < 0 → G mi own M0 Q dep k n M (pc + 3) L st) : G mi own M0 Q dep k n M pc L (.int x :: st) := g_two (fun hx hb w1 w2 => lv_if_lt hx hb hd ht w1 w2) k1 k2
theorem g_if_ge {x : Int32} {off : Int} (tgt : Nat) (hd : decode mi.2.1 pc = .ok (.ifCond .ge off, 3)) (ht : (pc : Int) + off = (tgt : Int)) (k1 : 0 ≤ x → G mi own M0 Q dep k n M tgt L st) (k2 : ¬ 0 ≤ x → G mi own M0 Q dep k n M (pc + 3) L st) : G mi own M0 Q dep k n M pc L (.int x :: st) := g_two (fun hx hb w1 w2 => lv_if_ge hx hb hd ht w1 w2) k1 k2
theorem g_if_gt {x : Int32} {off : Int} (tgt : Nat) (hd : decode mi.2.1 pc = .ok (.ifCond .gt off, 3)) (ht : (pc : Int) + off = (tgt : Int)) (k1 : 0 < x → G mi own M0 Q dep k n M tgt L st) (k2 : ¬ 0 < x → G mi own M0 Q dep k n M (pc + 3) L st) : G mi own M0 Q dep k n M pc L (.int x :: st) := g_two (fun hx hb w1 w2 => lv_if_gt hx hb hd ht w1 w2) k1 k2
theorem g_if_le {x : Int32} {off : Int} (tgt : Nat) (hd : decode mi.2.1 pc = .ok (.ifCond .le off, 3)) (ht : (pc : Int) + off = (tgt : Int)) (k1 : x ≤ 0 → G mi own M0 Q dep k n M tgt L st) (k2 : ¬ x ≤ 0 → G mi own M0 Q dep k n M (pc + 3) L st) : G mi own M0 Q dep k n M pc L (.int x :: st) := g_two (fun hx hb w1 w2 => lv_if_le hx hb hd ht w1 w2) k1 k2
theorem g_icmp_eq {x y : Int32} {off : Int} (tgt : Nat) (hd : decode mi.2.1 pc = .ok (.if_icmp .eq off, 3)) (ht : (pc : Int) + off = (tgt : Int)) (k1 : x = y → G mi own M0 Q dep k n M tgt L st) (k2 : ¬ x = y → G mi own M0 Q dep k n M (pc + 3) L st) : G mi own M0 Q dep k n M pc L (.int y :: .int x :: st) := g_two (fun hx hb w1 w2 => lv_icmp_eq hx hb hd ht w1 w2) k1 k2
theorem g_icmp_ne {x y : Int32} {off : Int} (tgt : Nat) (hd : decode mi.2.1 pc = .ok (.if_icmp .ne off, 3)) (ht : (pc : Int) + off = (tgt : Int)) (k1 : ¬ x = y → G mi own M0 Q dep k n M tgt L st) (k2 : x = y → G mi own M0 Q dep k n M (pc + 3) L st) : G mi own M0 Q dep k n M pc L (.int y :: .int x :: st) := g_two (fun hx hb w1 w2 => lv_icmp_ne hx hb hd ht w1 w2) k1 k2
theorem g_icmp_lt {x y : Int32} {off : Int} (tgt : Nat) (hd : decode mi.2.1 pc = .ok (.if_icmp .lt off, 3)) (ht : (pc : Int) + off = (tgt : Int)) (k1 : x < y → G mi own M0 Q dep k n M tgt L st) (k2 : ¬ x < y → G mi own M0 Q dep k n M (pc + 3) L st) : G mi own M0 Q dep k n M pc L (.int y :: .int x :: st) := g_two (fun hx hb w1 w2 => lv_icmp_lt hx hb hd ht w1 w2) k1 k2
theorem g_icmp_ge {x y : Int32} {off : Int} (tgt : Nat) (hd : decode mi.2.1 pc = .ok (.if_icmp .ge off, 3)) (ht : (pc : Int) + off = (tgt : Int)) (k1 : y ≤ x → G mi own M0 Q dep k n M tgt L st) (k2 : ¬ y ≤ x → G mi own M0 Q dep k n M (pc + 3) L st) : G mi own M0 Q dep k n M pc L (.int y :: .int x :: st) := g_two (fun hx hb w1 w2 => lv_icmp_ge hx hb hd ht w1 w2) k1 k2
theorem g_icmp_gt {x y : Int32} {off : Int} (tgt : Nat) (hd : decode mi.2.1 pc = .ok (.if_icmp .gt off, 3)) (ht : (pc : Int) + off = (tgt : Int)) (k1 : y < x → G mi own M0 Q dep k n M tgt L st) (k2 : ¬ y < x → G mi own M0 Q dep k n M (pc + 3) L st) : G mi own M0 Q dep k n M pc L (.int y :: .int x :: st) := g_two (fun hx hb w1 w2 => lv_icmp_gt hx hb hd ht w1 w2) k1 k2
theorem g_icmp_le {x y : Int32} {off : Int} (tgt : Nat) (hd : decode mi.2.1 pc = .ok (.if_icmp .le off, 3)) (ht : (pc : Int) + off = (tgt : Int)) (k1 : x ≤ y → G mi own M0 Q dep k n M tgt L st) (k2 : ¬ x ≤ y → G mi own M0 Q dep k n M (pc + 3) L st) : G mi own M0 Q dep k n M pc L (.int y :: .int x :: st) := g_two (fun hx hb w1 w2 => lv_icmp_le hx hb hd ht w1 w2) k1 k2
theorem g_acmp_eq {a b : Option Nat} {off : Int} (tgt : Nat) (hd : decode mi.2.1 pc = .ok (.if_acmp .eq off, 3)) (ht : (pc : Int) + off = (tgt : Int)) (k1 : a = b → G mi own M0 Q dep k n M tgt L st) (k2 : ¬ a = b → G mi own M0 Q dep k n M (pc + 3) L st) : G mi own M0 Q dep k n M pc L (va_rf b :: va_rf a :: st) := g_two (fun hx hb w1 w2 => lv_acmp_eq hx hb hd ht w1 w2) k1 k2
theorem g_acmp_ne {a b : Option Nat} {off : Int} (tgt : Nat) (hd : decode mi.2.1 pc = .ok (.if_acmp .ne off, 3)) (ht : (pc : Int) + off = (tgt : Int)) (k1 : ¬ a = b → G mi own M0 Q dep k n M tgt L st) (k2 : a = b → G mi own M0 Q dep k n M (pc + 3) L st) : G mi own M0 Q dep k n M pc L (va_rf b :: va_rf a :: st) := g_two (fun hx hb w1 w2 => lv_acmp_ne hx hb hd ht w1 w2) k1 k2
theorem g_ifnull {o : Option Nat} {off : Int} (tgt : Nat) (hd : decode mi.2.1 pc = .ok (.ifnull off, 3)) (ht : (pc : Int) + off = (tgt : Int)) (k1 : o = none → G mi own M0 Q dep k n M tgt L st) (k2 : ∀ a, o = some a → G mi own M0 Q dep k n M (pc + 3) L st) : G mi own M0 Q dep k n M pc L (va_rf o :: st) := by
  cases o with
  | none => exact g_go (fun hx hb _ _ _ w => lv_ifnullN hx hb hd ht w) (k1 rfl)
  | some a => exact g_go (fun hx hb _ _ _ w => lv_ifnull hx hb hd w) (k2 a rfl)
theorem g_ifnonnull {o : Option Nat} {off : Int} (tgt : Nat) (hd : decode mi.2.1 pc = .ok (.ifnonnull off, 3)) (ht : (pc : Int) + off = (tgt : Int)) (k1 : ∀ a, o = some a → G mi own M0 Q dep k n M tgt L st) (k2 : o = none → G mi own M0 Q dep k n M (pc + 3) L st) : G mi own M0 Q dep k n M pc L (va_rf o :: st) := by
  cases o with
  | none => exact g_go (fun hx hb _ _ _ w => lv_ifnonnullN hx hb hd w) (k2 rfl)
  | some a => exact g_go (fun hx hb _ _ _ w => lv_ifnonnull hx hb hd ht w) (k1 a rfl)
theorem g_tableOut {dflt lo hi : Int} {offs : Array Int} {len : Nat} {x : Int32} (tgt : Nat) (hd : decode mi.2.1 pc = .ok (.tableswitch dflt lo hi offs, len)) (h : x.toInt < lo ∨ hi < x.toInt) (ht : (pc : Int) + dflt = (tgt : Int)) (kk : G mi own M0 Q dep k n M tgt L st) : G mi own M0 Q dep k n M pc L (.int x :: st) := g_go (fun hx hb _ _ _ w => lv_tableOut hx hb hd h ht w) kk
theorem g_tableIn {dflt lo hi : Int} {offs : Array Int} {len : Nat} {x : Int32} {off : Int} (tgt : Nat) (hd : decode mi.2.1 pc = .ok (.tableswitch dflt lo hi offs, len)) (h1 : ¬ x.toInt < lo) (h2 : ¬ hi < x.toInt) (ho : offs[(x.toInt - lo).toNat]? = some off) (ht : (pc : Int) + off = (tgt : Int)) (kk : G mi own M0 Q dep k n M tgt L st) : G mi own M0 Q dep k n M pc L (.int x :: st) := g_go (fun hx hb _ _ _ w => lv_tableIn hx hb hd h1 h2 ho ht w) kk
theorem g_lookup {dflt : Int} {ps : Array (Int × Int)} {len : Nat} {x : Int32} {off : Int} (tgt : Nat) (hd : decode mi.2.1 pc = .ok (.lookupswitch dflt ps, len)) (hp : (ps.toList.zip (ps.toList.drop 1)).all (fun (a, next) => a.1 < next.1) = true) (ho : Op.lookupswitch.offset ps.toList dflt x.toInt = off) (ht : (pc : Int) + off = (tgt : Int)) (kk : G mi own M0 Q dep k n M tgt L st) : G mi own M0 Q dep k n M pc L (.int x :: st) := g_go (fun hx hb _ _ _ w => lv_lookup hx hb hd hp ho ht w) kk
theorem g_ret {r : Option Value} (hR : Rt mi r pc st) (hQ : Q r M) : G mi own M0 Q dep k n M pc L st := by
  intro p l e R s m args below meth c D dA pa A mc ms Z H locs cells slots ls C X hl h1 h2
  refine W.widen (k := mc) (n := ms) (by omega) (by omega) ?_
  exact C.2.2.2.2.2.2.2.2.2.2.2.2.2.2 r M H locs pc ls st X hQ hR
theorem g_ireturn {x : Int32} (hd : decode mi.2.1 pc = .ok (.ireturn, 1)) (ht : mi.2.2.2 = some .int) (hQ : Q (some (.int x)) M) : G mi own M0 Q dep k n M pc L [.int x] := g_ret (Or.inl ⟨x, .int, rfl, rfl, hd, ht, rfl⟩) hQ
theorem g_zreturn {x : Int32} (hd : decode mi.2.1 pc = .ok (.ireturn, 1)) (ht : mi.2.2.2 = some .boolean) (hx : x = 0 ∨ x = 1) (hQ : Q (some (.int x)) M) : G mi own M0 Q dep k n M pc L [.int x] := g_ret (Or.inl ⟨x, .boolean, rfl, rfl, hd, ht, by rcases hx with rfl | rfl <;> rfl⟩) hQ
theorem g_areturn {o : Option Nat} {C : String} (hd : decode mi.2.1 pc = .ok (.areturn, 1)) (ht : mi.2.2.2 = some (.object C)) (hQ : Q (some (va_rf o)) M) : G mi own M0 Q dep k n M pc L [va_rf o] := g_ret (Or.inr (Or.inl ⟨o, .object C, rfl, rfl, hd, ht, Or.inl ⟨C, rfl⟩⟩)) hQ
theorem g_return (hd : decode mi.2.1 pc = .ok (.return_, 1)) (ht : mi.2.2.2 = none) (hQ : Q none M) : G mi own M0 Q dep k n M pc L [] := g_ret (Or.inr (Or.inr ⟨rfl, rfl, hd, ht⟩)) hQ
/-- fewer cells may be asked -/
theorem g_less {k' n' : Nat} (hk : k' ≤ k) (hn : n' ≤ n) (kk : G mi own M0 Q dep k' n' M pc L st) : G mi own M0 Q dep k n M pc L st := by
  intro p l e R s m args below meth c D dA pa A mc ms Z H locs cells slots ls C X hl h1 h2
  exact kk p l e R s m args below meth c D dA pa A mc ms Z H locs cells slots ls C X hl (by omega) (by omega)
/-- places of the locals may be forgotten -/
theorem g_forget {L' : List (Option Value)} (hn : L'.length = L.length) (hL : ∀ (i : Nat) (v : Value), L'[i]? = some (some v) → L[i]? = some (some v)) (kk : G mi own M0 Q dep k n M pc L' st) : G mi own M0 Q dep k n M pc L st := by
  intro p l e R s m args below meth c D dA pa A mc ms Z H locs cells slots ls C X hl h1 h2
  exact kk p l e R s m args below meth c D dA pa A mc ms Z H locs cells slots ls C X ⟨⟨hl.1.1, hl.1.2.1, fun q hq => hl.at (hL _ _ (lp_of hq))⟩, by rw [hn]; exact hl.2.1, fun i v hv => hl.2.2 i v (hL i v hv)⟩ h1 h2
/-! fields -/
/-- pool number idx of class 'cls' is field kf of class number ci -/
def fl (cls : String) (idx ci kf : Nat) : Prop := ∃ r : vw_C, kCl[ci]? = some r ∧ kf < r.2.2 ∧ kAty ci = none ∧ Cond.fieldLink cls idx (r.2.1 kf).1 (r.2.1 kf).2.1 (r.2.1 kf).2.2.1 ∈ kTB
theorem mm_obj {D : va_G} {dA : Nat → ClassId} {H : Heap} {a ci τ N : Nat} (hR : Rp D dA M H) (hk : kd M a = some (ci, τ, N)) (ha : kAty ci = none) : ∃ r : vw_C, kCl[ci]? = some r ∧ r.2.2 = N ∧ t_OB a (D.1 ci) N (D.2 ci) H (sv M a ci) := by
  have h := hR a ci τ N hk
  unfold mm_at at h
  rw [ha] at h
  exact h
theorem g_getv {idx ci kf a τ N : Nat} {o : Option Nat} (hf : fl mi.1.cls idx ci kf) (hd : decode mi.2.1 pc = .ok (.getfield idx, 3)) (ho : o = some a) (hk : kd M a = some (ci, τ, N)) (kk : G mi own M0 Q dep k n M (pc + 3) L (sv M a ci kf :: st)) : G mi own M0 Q dep k n M pc L (va_rf o :: st) := by
  subst ho
  intro p l e R s m args below meth c D dA pa A mc ms Z H locs cells slots ls C X hl h1 h2
  obtain ⟨r, hc, hlt, hna, hw⟩ := hf
  obtain ⟨hx, hb, hml, hown, hts, -, hK, -⟩ := id C
  obtain ⟨r', hr', hN, cell, q1, q2, q3, q4⟩ := mm_obj X.1 hk hna
  cases hc.symm.trans hr'
  subst hN
  obtain ⟨hS, hfc, kC, hkC, hkind⟩ := hK.1 ci _ hc
  obtain ⟨cf, kf', fi, f, hi, hsl⟩ := hS kf hlt
  refine W.getf hx hb hown (hts _ hw) hi (u_facts hfc hkC (u_lays hts (kIn_ok ci r hc) hlt) hi).1 q1 (by rw [q3]; exact fun h => by cases h) (v := sv M a ci kf) ?_ rfl rfl hd (kk p l e R s m args below meth c D dA pa A mc ms Z H locs cells slots ls C X hl h1 h2)
  rw [hsl, q4 kf hlt]
theorem g_geti {idx ci kf a τ N : Nat} {o : Option Nat} (f : Nat) (hf : fl mi.1.cls idx ci kf) (ht : kInt (kTy ci kf) = true) (he : 64 * ci + kf = f) (hd : decode mi.2.1 pc = .ok (.getfield idx, 3)) (ho : o = some a) (hk : kd M a = some (ci, τ, N)) (kk : G mi own M0 Q dep k n M (pc + 3) L (.int (gi M a f) :: st)) : G mi own M0 Q dep k n M pc L (va_rf o :: st) := by
  refine g_getv hf hd ho hk ?_
  unfold sv
  rw [if_pos ht, he]
  exact kk
theorem g_getr {idx ci kf a τ N : Nat} {o : Option Nat} (f : Nat) (hf : fl mi.1.cls idx ci kf) (ht : kInt (kTy ci kf) = false) (he : 64 * ci + kf = f) (hd : decode mi.2.1 pc = .ok (.getfield idx, 3)) (ho : o = some a) (hk : kd M a = some (ci, τ, N)) (kk : G mi own M0 Q dep k n M (pc + 3) L (va_rf (gr M a f) :: st)) : G mi own M0 Q dep k n M pc L (va_rf o :: st) := by
  refine g_getv hf hd ho hk ?_
  unfold sv
  rw [if_neg (by rw [ht]; decide), he]
  exact kk
/-- the memory behind a store into one cell -/
theorem mm_put {D : va_G} {dA : Nat → ClassId} {A : Nat → Prop} {s : State} {H H' : Heap} {locs : List Loc} {M' : Mm} {a ci τ N j : Nat} (hA0 : ∀ q κ τ N : Nat, kd M0 q = some (κ, τ, N) → own κ τ = true → A q) (X : Mx own M0 M D dA A s H locs) (hk : kd M a = some (ci, τ, N)) (hw : own ci τ = true) (hkd : ∀ b, kd M' b = kd M b) (hgi : ∀ b f, b ≠ a → gi M' b f = gi M b f) (hgr : ∀ b f, b ≠ a → gr M' b f = gr M b f) (hFr : Fr own M0 M') (hat : mm_at D dA M' a ci N H') (hz : H'.size = H.size) (hq : ∀ q, q ≠ a → H'[q]? = H[q]?) : Mx own M0 M' D dA A s H' (locs ++ [⟨a, j⟩]) := by
  obtain ⟨x1, x2, x3, x4⟩ := X
  have hAa : A a := (x3 a ci τ N hk).elim (fun h => hA0 a ci τ N h hw) id
  refine ⟨fun b κ τ' N' hb => ?_, hFr, fun q κ τ' N' hq' => x3 q κ τ' N' (by rw [← hkd]; exact hq'), x4.put hz hq hAa⟩
  rw [hkd] at hb
  by_cases e : b = a
  · subst e
    rw [hk] at hb
    cases hb
    exact hat
  · exact ((x1 b κ τ' N' hb).kept (hq b e)).same (fun f => hgi b f e) (fun f => hgr b f e)
/-- a store into a field, final or not; M' is the memory behind it -/
theorem g_putv {idx ci kf a τ N : Nat} {o : Option Nat} {v : Value} (M' : Mm) (hf : fl mi.1.cls idx ci kf) (hfin : mi.1.name = "<init>" ∧ (∀ r : vw_C, kCl[ci]? = some r → (r.2.1 kf).1 = mi.1.cls) ∨ ∀ r : vw_C, kCl[ci]? = some r → (r.2.1 kf).2.2.2 = false) (hw : own ci τ = true) (hn : narrow (kTy ci kf) v = v) (hfit : fits (kTy ci kf) v = true)
    (hd : decode mi.2.1 pc = .ok (.putfield idx, 3)) (ho : o = some a) (hk : kd M a = some (ci, τ, N)) (hkd : ∀ b, kd M' b = kd M b) (hgi : ∀ b f, b ≠ a → gi M' b f = gi M b f) (hgr : ∀ b f, b ≠ a → gr M' b f = gr M b f) (hFr : Fr own M0 M → Fr own M0 M') (hsv : ∀ j, j < N → updV (sv M a ci) kf v j = sv M' a ci j)
    (kk : G mi own M0 Q dep k n M' (pc + 3) L st) : G mi own M0 Q dep k n M pc L (v :: va_rf o :: st) := by
  subst ho
  intro p l e R s m args below meth c D dA pa A mc ms Z H locs cells slots ls C X hl h1 h2
  obtain ⟨r, hc, hlt, hna, hwd⟩ := hf
  obtain ⟨hx, hb, hml, hown, hts, hnm, hK, -, hA0, -⟩ := id C
  obtain ⟨r', hr', hN, cell, q1, q2, q3, q4⟩ := mm_obj X.1 hk hna
  cases hc.symm.trans hr'
  subst hN
  have hap : ∀ x y, x < r.2.2 → y < r.2.2 → x ≠ y → (D.2 ci) x ≠ (D.2 ci) y := by
    intro x y hx' hy' hne
    obtain ⟨hS, -⟩ := hK.1 ci _ hc
    obtain ⟨_, _, _, fa, hia, ea⟩ := hS x hx'
    obtain ⟨_, _, _, fb, hib, eb⟩ := hS y hy'
    rw [← ea, ← eb]
    refine u_apart (u_lays hts (kIn_ok ci r hc) hx') (u_lays hts (kIn_ok ci r hc) hy') hia hib ?_
    rw [(State.fieldFound?_type hia (kTy_ok ci r hc x hx')).1, (State.fieldFound?_type hib (kTy_ok ci r hc y hy')).1]
    exact kNm_ok ci r hc x hx' y hy' hne
  obtain ⟨hS, hfc, kC, hkC, hkind⟩ := hK.1 ci _ hc
  obtain ⟨cf, kf', fi, f, hi, hsl⟩ := hS kf hlt
  have hlay := hts _ (kIn_ok ci r hc _ (u_in_lay hlt))
  have hst := (u_facts hfc hkC (u_lays hts (kIn_ok ci r hc) hlt) hi).1
  have fin : ∀ H' : Heap, H'[a]? = some (cell.setSlot f.slot v) → H'.size = H.size → (∀ q, q ≠ a → H'[q]? = H[q]?) → W p l e R s m args below meth c H' (locs ++ [⟨a, f.slot⟩]) cells slots Z (F0 m (pc + 3) ls st) := by
    intro H' e1 e2 e3
    rw [hsl] at e1
    have hat : mm_at D dA M' a ci r.2.2 H' := by
      unfold mm_at
      rw [hna]
      exact ⟨r, hc, rfl, t_OB.to (V := updV (sv M a ci) kf v) ⟨_, e1, q2, q3, t_set q4 hap hlt v⟩ hsv⟩
    exact kk p l e R s m args below meth c D dA pa A mc ms Z H' _ cells slots ls C (mm_put hA0 X hk hw hkd hgi hgr (hFr X.2.1) hat e2 e3) hl h1 h2
  unfold u_lay at hlay
  by_cases hF : (r.2.1 kf).2.2.2 = true
  · rw [if_pos hF] at hlay
    rcases hfin with ⟨hin2, hdecl⟩ | hnf
    · have hcf : m.cls = cf := by
        obtain ⟨_, _, c', _, _, _, -, -, hf', -, -, -, hown2, -⟩ := Cond.laysFinal_spec hlay
        have e1 : c' = cf := by have := hi.symm.trans hf'; simp at this; exact this.1.symm
        rw [hdecl r hc] at hown2
        rw [← e1]; exact Option.some.inj (hown.symm.trans hown2)
      have h6 := u_fits hfc hkC hkind (Or.inr hlay) hi (kTy_ok ci r hc kf hlt) hn hfit
      exact W.putFinK hx hb hown (hts _ hwd) hi hst hcf (hnm.trans hin2) (by rw [q2]; exact h6) q1 q3 (by rw [hsl]; exact k2_hasslot (q4 kf hlt)) rfl rfl hd fin
    · rw [hnf r hc] at hF; cases hF
  · rw [if_neg hF] at hlay
    have h6 := u_store hfc hkC hkind hlay hi (kTy_ok ci r hc kf hlt) hn hfit
    exact W.putK hx hb (f := f) ⟨hown, hts _ hwd, ⟨_, _, _, hi⟩, hst⟩ (by rw [q2]; exact h6) q1 q3 (by rw [hsl]; exact k2_hasslot (q4 kf hlt)) rfl rfl hd fin
theorem sv_si {a ci kf f : Nat} {x : Int32} (ht : kInt (kTy ci kf) = true) (he : 64 * ci + kf = f) (j : Nat) : updV (sv M a ci) kf (.int x) j = sv (si M a f x) a ci j := by
  unfold updV
  by_cases hj : j = kf
  · rw [if_pos hj]
    subst hj
    unfold sv
    rw [if_pos ht, he, gi_si_s]
  · rw [if_neg hj]
    unfold sv
    rw [gi_si_f (by omega), gr_si]
theorem sv_sr {a ci kf f : Nat} {x : Option Nat} (ht : kInt (kTy ci kf) = false) (he : 64 * ci + kf = f) (j : Nat) : updV (sv M a ci) kf (va_rf x) j = sv (sr M a f x) a ci j := by
  unfold updV
  by_cases hj : j = kf
  · rw [if_pos hj]
    subst hj
    unfold sv
    rw [if_neg (by rw [ht]; decide), he, gr_sr_s]
  · rw [if_neg hj]
    unfold sv
    rw [gr_sr_f (by omega), gi_sr]
/-- where a field may be written: it isn't final, or this is a constructor of its class -/
def fw (mi : MI) (ci kf : Nat) : Prop := mi.1.name = "<init>" ∧ (∀ r : vw_C, kCl[ci]? = some r → (r.2.1 kf).1 = mi.1.cls) ∨ ∀ r : vw_C, kCl[ci]? = some r → (r.2.1 kf).2.2.2 = false
theorem g_puti {idx ci kf a τ N : Nat} {o : Option Nat} {x : Int32} (f : Nat) (hf : fl mi.1.cls idx ci kf) (hfin : fw mi ci kf) (ht : kTy ci kf = .int) (he : 64 * ci + kf = f) (hd : decode mi.2.1 pc = .ok (.putfield idx, 3)) (ho : o = some a) (hk : kd M a = some (ci, τ, N)) (hw : own ci τ = true) (kk : G mi own M0 Q dep k n (si M a f x) (pc + 3) L st) : G mi own M0 Q dep k n M pc L (.int x :: va_rf o :: st) :=
  g_putv (si M a f x) hf hfin hw (by rw [ht]; rfl) (by rw [ht]; rfl) hd ho hk (fun _ => rfl) (fun b g hb => gi_si_a hb M f g x) (fun _ _ _ => rfl) (fun h => h.si hk hw f x) (fun j _ => sv_si (by rw [ht]; rfl) he j) kk
theorem g_putz {idx ci kf a τ N : Nat} {o : Option Nat} {x : Int32} (f : Nat) (hf : fl mi.1.cls idx ci kf) (hfin : fw mi ci kf) (ht : kTy ci kf = .boolean) (he : 64 * ci + kf = f) (hx : x = 0 ∨ x = 1) (hd : decode mi.2.1 pc = .ok (.putfield idx, 3)) (ho : o = some a) (hk : kd M a = some (ci, τ, N)) (hw : own ci τ = true) (kk : G mi own M0 Q dep k n (si M a f x) (pc + 3) L st) : G mi own M0 Q dep k n M pc L (.int x :: va_rf o :: st) :=
  g_putv (si M a f x) hf hfin hw (by rw [ht]; rcases hx with rfl | rfl <;> rfl) (by rw [ht]; rcases hx with rfl | rfl <;> rfl) hd ho hk (fun _ => rfl) (fun b g hb => gi_si_a hb M f g x) (fun _ _ _ => rfl) (fun h => h.si hk hw f x) (fun j _ => sv_si (by rw [ht]; rfl) he j) kk
def kRef (t : FieldType) : Bool := match t with
  | .object _ => true
  | .array _ => true
  | _ => false
theorem g_putr {idx ci kf a τ N : Nat} {o v : Option Nat} (f : Nat) (hf : fl mi.1.cls idx ci kf) (hfin : fw mi ci kf) (ht : kRef (kTy ci kf) = true) (he : 64 * ci + kf = f) (hd : decode mi.2.1 pc = .ok (.putfield idx, 3)) (ho : o = some a) (hk : kd M a = some (ci, τ, N)) (hw : own ci τ = true) (kk : G mi own M0 Q dep k n (sr M a f v) (pc + 3) L st) : G mi own M0 Q dep k n M pc L (va_rf v :: va_rf o :: st) := by
  have t0 : kInt (kTy ci kf) = false := by
    revert ht
    cases kTy ci kf <;> simp [kRef, kInt]
  refine g_putv (sr M a f v) hf hfin hw ?_ ?_ hd ho hk (fun _ => rfl) (fun _ _ _ => rfl) (fun b g hb => gr_sr_a hb M f g v) (fun h => h.sr hk hw f v) (fun j _ => sv_sr t0 he j) kk
  · revert ht
    cases kTy ci kf <;> cases v <;> simp [kRef, narrow, va_rf]
  · revert ht
    cases kTy ci kf <;> cases v <;> simp [kRef, fits, va_rf]
/-! arrays -/
theorem mm_arr {D : va_G} {dA : Nat → ClassId} {H : Heap} {a κ τ N : Nat} {t : FieldType} (hR : Rp D dA M H) (hk : kd M a = some (κ, τ, N)) (ha : kAty κ = some t) : H[a]? = some (arrV (dA κ) N (ev M a t)) := by
  have h := hR a κ τ N hk
  unfold mm_at at h
  rw [ha] at h
  exact h
theorem g_alen {a κ τ N : Nat} {o : Option Nat} {t : FieldType} (hd : decode mi.2.1 pc = .ok (.arraylength, 1)) (ho : o = some a) (hk : kd M a = some (κ, τ, N)) (ha : kAty κ = some t) (kk : G mi own M0 Q dep k n M (pc + 1) L (.int (nI N) :: st)) : G mi own M0 Q dep k n M pc L (va_rf o :: st) := by
  subst ho
  intro p l e R s m args below meth c D dA pa A mc ms Z H locs cells slots ls C X hl h1 h2
  obtain ⟨hx, hb, hml, hown, hts, hnm, hK, -⟩ := id C
  exact W.alen (n := nI N) hx hb (mm_arr X.1 hk ha) ((hK.2.1 κ t ha).1 N (ev M a t)) (by rw [arrV_size]; rfl) rfl rfl hd (kk p l e R s m args below meth c D dA pa A mc ms Z H locs cells slots ls C X hl h1 h2)
theorem nI_vp {j N : Nat} (hj : j < N) (hN : N < 2 ^ 31) (c : ClassId) (f : Nat → Value) : ¬ (nI j < 0 ∨ (arrV c N f).slots.size ≤ (nI j).toNatClampNeg) := by
  rw [arrV_size]; exact vp_in_nI hj hN
theorem g_iald {a κ τ N j : Nat} {o : Option Nat} {i : Int32} (hd : decode mi.2.1 pc = .ok (.iaload, 1)) (ho : o = some a) (hk : kd M a = some (κ, τ, N)) (ha : kAty κ = some .int) (hi : i = nI j) (hj : j < N) (hN : N < 2 ^ 31) (kk : G mi own M0 Q dep k n M (pc + 1) L (.int (gi M a (4096 + j)) :: st)) : G mi own M0 Q dep k n M pc L (.int i :: va_rf o :: st) := by
  subst ho; subst hi
  intro p l e R s m args below meth c D dA pa A mc ms Z H locs cells slots ls C X hl h1 h2
  obtain ⟨hx, hb, hml, hown, hts, hnm, hK, -⟩ := id C
  refine W.iald (v := .int (gi M a (4096 + j))) hx hb (mm_arr X.1 hk ha) ((hK.2.1 κ .int ha).1 N (ev M a .int)) (fun q => by cases q) (nI_vp hj hN _ _) ?_ rfl rfl hd (kk p l e R s m args below meth c D dA pa A mc ms Z H locs cells slots ls C X hl h1 h2)
  rw [nI_clamp (by omega), arrV_read _ _ hj]
  rfl
theorem g_aald {a κ τ N j : Nat} {o : Option Nat} {i : Int32} {C : String} (hd : decode mi.2.1 pc = .ok (.aaload, 1)) (ho : o = some a) (hk : kd M a = some (κ, τ, N)) (ha : kAty κ = some (.object C)) (hi : i = nI j) (hj : j < N) (hN : N < 2 ^ 31) (kk : G mi own M0 Q dep k n M (pc + 1) L (va_rf (gr M a (4096 + j)) :: st)) : G mi own M0 Q dep k n M pc L (.int i :: va_rf o :: st) := by
  subst ho; subst hi
  intro p l e R s m args below meth c D dA pa A mc ms Z H locs cells slots ls C' X hl h1 h2
  obtain ⟨hx, hb, hml, hown, hts, hnm, hK, -⟩ := id C'
  refine W.aald (v := va_rf (gr M a (4096 + j))) (ty := .object C) hx hb (mm_arr X.1 hk ha) ((hK.2.1 κ _ ha).1 N (ev M a (.object C))) rfl (fun q => by cases q) (nI_vp hj hN _ _) ?_ rfl rfl hd (kk p l e R s m args below meth c D dA pa A mc ms Z H locs cells slots ls C' X hl h1 h2)
  rw [nI_clamp (by omega), arrV_read _ _ hj]
  rfl
theorem ev_si {a j : Nat} {x : Int32} {t : FieldType} (ht : kInt t = true) : updV (ev M a t) j (.int x) = ev (si M a (4096 + j) x) a t := by
  funext q
  unfold updV ev
  by_cases hq : q = j
  · rw [if_pos hq, if_pos ht, hq, gi_si_s]
  · rw [if_neg hq, gi_si_f (by omega), gr_si]
theorem ev_sr {a j : Nat} {x : Option Nat} {t : FieldType} (ht : kInt t = false) : updV (ev M a t) j (va_rf x) = ev (sr M a (4096 + j) x) a t := by
  funext q
  unfold updV ev
  by_cases hq : q = j
  · rw [if_pos hq, if_neg (by rw [ht]; decide), hq, gr_sr_s]
  · rw [if_neg hq, gr_sr_f (by omega), gi_sr]
theorem g_iast {a κ τ N j : Nat} {o : Option Nat} {i x : Int32} (hd : decode mi.2.1 pc = .ok (.iastore, 1)) (ho : o = some a) (hk : kd M a = some (κ, τ, N)) (ha : kAty κ = some .int) (hw : own κ τ = true) (hi : i = nI j) (hj : j < N) (hN : N < 2 ^ 31) (kk : G mi own M0 Q dep k n (si M a (4096 + j) x) (pc + 1) L st) : G mi own M0 Q dep k n M pc L (.int x :: .int i :: va_rf o :: st) := by
  subst ho; subst hi
  intro p l e R s m args below meth c D dA pa A mc ms Z H locs cells slots ls C X hl h1 h2
  obtain ⟨hx, hb, hml, hown, hts, hnm, hK, -⟩ := id C
  refine W.iast hx hb (mm_arr X.1 hk ha) ((hK.2.1 κ .int ha).1 N (ev M a .int)) (fun q => by cases q) (nI_vp hj hN _ _) rfl rfl hd fun H1 e1 e2 e3 => ?_
  rw [nI_clamp (by omega), arrV_store, ev_si rfl] at e1
  have hat : mm_at D dA (si M a (4096 + j) x) a κ N H1 := by
    unfold mm_at
    rw [ha]
    exact e1
  exact kk p l e R s m args below meth c D dA pa A mc ms Z H1 _ cells slots ls C (mm_put C.2.2.2.2.2.2.2.2.1 X hk hw (fun _ => rfl) (fun b g hb => gi_si_a hb M _ g x) (fun _ _ _ => rfl) (X.2.1.si hk hw _ x) hat e2 e3) hl h1 h2
theorem g_aast {a κ τ N j ci τ' N' : Nat} {o v : Option Nat} {i : Int32} {C : String} (hd : decode mi.2.1 pc = .ok (.aastore, 1)) (ho : o = some a) (hk : kd M a = some (κ, τ, N)) (ha : kAty κ = some (.object C)) (hw : own κ τ = true) (hi : i = nI j) (hj : j < N) (hN : N < 2 ^ 31) (hv : ∀ b, v = some b → kd M b = some (ci, τ', N') ∧ kAty ci = none ∧ ∀ r : vw_C, kCl[ci]? = some r → r.1 = C) (kk : G mi own M0 Q dep k n (sr M a (4096 + j) v) (pc + 1) L st) : G mi own M0 Q dep k n M pc L (va_rf v :: .int i :: va_rf o :: st) := by
  subst ho; subst hi
  intro p l e R s m args below meth c D dA pa A mc ms Z H locs cells slots ls C' X hl h1 h2
  obtain ⟨hx, hb, hml, hown, hts, hnm, hK, -⟩ := id C'
  have fin : ∀ H1 : Heap, H1[a]? = some ((arrV (dA κ) N (ev M a (.object C))).setSlot (nI j).toNatClampNeg (va_rf v)) → H1.size = H.size → (∀ q, q ≠ a → H1[q]? = H[q]?) → W p l e R s m args below meth c H1 (locs ++ [⟨a, (nI j).toNatClampNeg⟩]) cells slots Z (F0 m (pc + 1) ls st) := by
    intro H1 e1 e2 e3
    have ec : (nI j).toNatClampNeg = j := nI_clamp (by omega)
    rw [ec, arrV_store, ev_sr rfl] at e1
    have hat : mm_at D dA (sr M a (4096 + j) v) a κ N H1 := by
      unfold mm_at
      rw [ha]
      exact e1
    exact kk p l e R s m args below meth c D dA pa A mc ms Z H1 _ cells slots ls C' (mm_put C'.2.2.2.2.2.2.2.2.1 X hk hw (fun _ => rfl) (fun _ _ _ => rfl) (fun b g hb => gr_sr_a hb M _ g v) (X.2.1.sr hk hw _ v) hat e2 e3) hl h1 h2
  cases v with
  | none => exact va_WaastN (C := C) hx hb (mm_arr X.1 hk ha) ((hK.2.1 κ _ ha).1 N (ev M a (.object C))) (fun q => by cases q) (nI_vp hj hN _ _) rfl rfl hd fin
  | some b =>
    obtain ⟨hkb, hnb, hCb⟩ := hv b rfl
    obtain ⟨r', hr', hN', cellV, g1, g2, g3, -⟩ := mm_obj X.1 hkb hnb
    have hcls := (hK.1 ci r' hr').2
    obtain ⟨kA, comp, k1, k2, k3, -⟩ := (hK.2.1 κ _ ha).2
    rw [hCb r' hr'] at hcls
    have hcomp : comp = D.1 ci := Option.some.inj (k3.symm.trans hcls.1)
    subst hcomp
    obtain ⟨kC, hkC, -⟩ := hcls.2
    have hin := nI_vp hj hN (dA κ) (ev M a (.object C))
    exact W.aast hx hb (mm_arr X.1 hk ha) (fun q h => by cases h) (fun h => by cases h) k1 k2 rfl hkC ⟨fun q => hin (Or.inl q), Nat.not_le.mp fun q => hin (Or.inr q)⟩ g1 (fun q h => by rw [g3] at h; cases h) (by rw [g2]; exact hkC) (by rw [g2]; exact va_assign hcls) rfl rfl hd fin
/-! making cells -/
/-- the memory behind a new cell -/
theorem mm_new {D : va_G} {dA : Nat → ClassId} {A : Nat → Prop} {s : State} {H H' : Heap} {locs : List Loc} {κ τ N : Nat} (X : Mx own M0 M D dA A s H locs) (hA : ∀ q : Nat, s.heap.size ≤ q → A q) (hat : mm_at D dA (nw M H.size κ τ N) H.size κ N H') (hz : H'.size = H.size + 1) (hq : ∀ q, q < H.size → H'[q]? = H[q]?) : Mx own M0 (nw M H.size κ τ N) D dA A s H' locs := by
  obtain ⟨x1, x2, x3, x4⟩ := X
  have hfr := x1.fresh
  refine ⟨fun b κ' τ' N' hb => ?_, x2.nw hfr κ τ N, fun q κ' τ' N' hq' => ?_, Nat.le_trans x4.1 (by omega), fun x h1 h2 => (hq x (Nat.lt_of_lt_of_le h1 x4.1)).trans (x4.2.1 x h1 h2), x4.2.2⟩
  · rw [kd_nw] at hb
    by_cases e : b = H.size
    · rw [if_pos e] at hb
      cases hb
      subst e
      exact hat
    · rw [if_neg e] at hb
      have h := x1 b κ' τ' N' hb
      refine (h.kept (hq b h.lt)).same (fun f => ?_) (fun f => ?_)
      · rw [gi_nw, if_neg e]
      · rw [gr_nw, if_neg e]
  · rw [kd_nw] at hq'
    by_cases e : q = H.size
    · rw [e]; exact Or.inr (hA _ x4.1)
    · rw [if_neg e] at hq'
      exact x3 q κ' τ' N' hq'
/-- pool number idx of class 'cls' is class number ci, of N fields, which can be made -/
def cl_ok (cls : String) (idx ci N : Nat) : Prop := ∃ r : vw_C, kCl[ci]? = some r ∧ r.2.2 = N ∧ kAty ci = none ∧ Cond.classLink cls idx r.1 ∈ kTB ∧ Cond.instantiable r.1 N ∈ kTB ∧ Cond.initialized r.1 ∈ kTB ∧ ∀ j, j < N → kInt (kTy ci j) = true ∨ kRef (kTy ci j) = true
theorem g_new {idx ci N k' n' : Nat} (τ : Nat) (hc : cl_ok mi.1.cls idx ci N) (hd : decode mi.2.1 pc = .ok (.new idx, 3)) (hk : k' + 1 ≤ k) (hn : n' + N ≤ n) (kk : ∀ q : Nat, kd M q = none → G mi own M0 Q dep k' n' (nw M q ci τ N) (pc + 3) L (va_rf (some q) :: st)) : G mi own M0 Q dep k n M pc L st := by
  intro p l e R s m args below meth c D dA pa A mc ms Z H locs cells slots ls C X hl h1 h2
  obtain ⟨r, hr, hN, hna, w1, w2, w3, hty⟩ := hc
  obtain ⟨hx, hb, hml, hown, hts, hnm, hK, hA, -, hmc, hms, -⟩ := id C
  have hKn := hK.1 ci _ hr
  refine W.newcK hx hb hown (hts _ w1) (hts _ w2) (hts _ w3) rfl hd (by omega) (by omega) hKn.2.1 rfl fun H1 kC hkC e1 z1 o1 => ?_
  have hat : mm_at D dA (nw M H.size ci τ N) H.size ci N H1 := by
    unfold mm_at
    rw [hna]
    subst hN
    refine ⟨r, hr, rfl, (u_born (kTy ci) hts (kIn_ok ci r hr) hKn hkC e1 (kTy_ok ci r hr)).to fun j hj => ?_⟩
    unfold sv
    rw [gi_nw, gr_nw, if_pos rfl, if_pos rfl]
    rcases hty j hj with h | h
    · rw [if_pos h]
      revert h
      cases kTy ci j <;> simp [kInt, defaultValue]
    · have h0 : ¬ kInt (kTy ci j) = true := by
        revert h
        cases kTy ci j <;> simp [kRef, kInt]
      rw [if_neg h0]
      revert h
      cases kTy ci j <;> simp [kRef, defaultValue, va_rf]
  exact kk H.size X.1.fresh p l e R s m args below meth c D dA pa A mc ms Z H1 locs (cells + 1) (slots + N) ls C (mm_new X hA hat z1 o1) hl (by omega) (by omega)
theorem g_newi {κ N k' n' : Nat} (τ : Nat) {i : Int32} (ha : kAty κ = some .int) (hw : Cond.arrayClass .int ∈ kTB) (hd : decode mi.2.1 pc = .ok (.newarray .int, 2)) (hi : i = nI N) (hN : N < 2 ^ 27) (hk : k' + 1 ≤ k) (hn : n' + N ≤ n) (kk : ∀ q : Nat, kd M q = none → G mi own M0 Q dep k' n' (nw M q κ τ N) (pc + 2) L (va_rf (some q) :: st)) : G mi own M0 Q dep k n M pc L (.int i :: st) := by
  subst hi
  intro p l e R s m args below meth c D dA pa A mc ms Z H locs cells slots ls C X hl h1 h2
  obtain ⟨hx, hb, hml, hown, hts, hnm, hK, hA, -, hmc, hms, -⟩ := id C
  refine va_newaK (atype := .int) (N := N) hx hb (hts _ hw) rfl hd rfl (nI_pos (by omega)) (nI_clamp (by omega)) (by show N * 4 ≤ _; omega) (by omega) (by omega) rfl fun H1 cA e1 z1 o1 hAr hNm => ?_
  have hat : mm_at D dA (nw M H.size κ τ N) H.size κ N H1 := by
    unfold mm_at
    rw [ha]
    have hc : cA = dA κ := Option.some.inj (hNm.symm.trans (hK.2.1 κ _ ha).2)
    have he : ev (nw M H.size κ τ N) H.size .int = (fun _ => defaultValue .int) := by
      funext j
      unfold ev
      rw [gi_nw, if_pos rfl]
      rfl
    show H1[H.size]? = some (arrV (dA κ) N (ev (nw M H.size κ τ N) H.size .int))
    rw [he, ← hc]
    exact e1
  exact kk H.size X.1.fresh p l e R s m args below meth c D dA pa A mc ms Z H1 locs (cells + 1) (slots + N) ls C (mm_new X hA hat z1 o1) hl (by omega) (by omega)
theorem g_newr {κ N idx k' n' : Nat} (τ : Nat) {i : Int32} {C : String} (ha : kAty κ = some (.object C)) (hw : Cond.classLink mi.1.cls idx C ∈ kTB) (hw2 : C ∈ kArr) (hd : decode mi.2.1 pc = .ok (.anewarray idx, 3)) (hi : i = nI N) (hN : N < 2 ^ 27) (hk : k' + 1 ≤ k) (hn : n' + N ≤ n) (kk : ∀ q : Nat, kd M q = none → G mi own M0 Q dep k' n' (nw M q κ τ N) (pc + 3) L (va_rf (some q) :: st)) : G mi own M0 Q dep k n M pc L (.int i :: st) := by
  subst hi
  intro p l e R s m args below meth c D dA pa A mc ms Z H locs cells slots ls C' X hl h1 h2
  obtain ⟨hx, hb, hml, hown, hts, hnm, hK, hA, -, hmc, hms, -⟩ := id C'
  have ec : (nI N).toNatClampNeg = N := nI_clamp (by omega)
  refine W.anew hx hb hown (hts _ hw) (va_AO.use (hK.2.2.2 C hw2)) rfl hd rfl (nI_pos (by omega)) (by rw [ec]; omega) (by omega) (by rw [ec]; omega) fun cA kA comp f1 f2 f3 f4 => ?_
  rw [ec]
  generalize hH1 : H.push ({ cls := cA, slots := Array.replicate N .null, vm := .none } : Cell) = H1
  have z1 : H1.size = H.size + 1 := by rw [← hH1, Array.size_push]
  have e1 : H1[H.size]? = some (arrV cA N (fun _ => .null)) := by rw [← hH1, Array.getElem?_push_size, ← arrV_new]
  have o1 : ∀ q : Nat, q < H.size → H1[q]? = H[q]? := fun q hq => by rw [← hH1, Array.getElem?_push, if_neg (Nat.ne_of_lt hq)]
  have hat : mm_at D dA (nw M H.size κ τ N) H.size κ N H1 := by
    unfold mm_at
    rw [ha]
    obtain ⟨kA', comp', -, -, -, g4⟩ := (hK.2.1 κ _ ha).2
    have hc : cA = dA κ := Option.some.inj (f1.symm.trans g4)
    have he : ev (nw M H.size κ τ N) H.size (.object C) = (fun _ => .null) := by
      funext j
      unfold ev
      rw [gr_nw, if_pos rfl]
      rfl
    show H1[H.size]? = some (arrV (dA κ) N (ev (nw M H.size κ τ N) H.size (.object C)))
    rw [he, ← hc]
    exact e1
  exact kk H.size X.1.fresh p l e R s m args below meth c D dA pa A mc ms Z H1 locs (cells + 1) (slots + N) ls C' (mm_new X hA hat z1 o1) hl (by omega) (by omega)
/-! calls -/
theorem cs_sum {rest : List Value} (hc : ∀ v ∈ rest, v.category = 1) : (rest.map fun v => v.category).sum = rest.length := by
  induction rest with
  | nil => rfl
  | cons v r ih =>
    rw [List.map_cons, List.sum_cons, hc v List.mem_cons_self, ih (fun w hw => hc w (List.mem_cons_of_mem _ hw)), List.length_cons]
    omega
/-- what a call behind pool number idx of class 'cls' needs of the tables, for any kind of call -/
def cw_ok (cls : String) (idx : Nat) (y : MI) (np : Nat) : Prop := Cond.methodLink cls idx y.1 ∈ kTB ∧ Cond.initialized y.1.cls ∈ kTB ∧ Cond.code y.1 y.2.1 y.2.2.1 y.2.2.2 ∈ kTB ∧ (y.1.cls ≠ "java/lang/invoke/MethodHandle" ∧ y.1.cls ≠ "java/lang/invoke/VarHandle" ∧ (parseMethodDescriptor y.1.desc).map (fun d => d.parameters.length) = some np) ∧ y.2.2.1 + 19 ≤ kLW
theorem kWs_good {y : MI} (hc : Cond.code y.1 y.2.1 y.2.2.1 y.2.2.2 ∈ kTB) : GoodIn kTB (kWs y) := by
  intro w hw
  rcases List.mem_cons.mp hw with rfl | h
  · exact ⟨hc, kGood _ hc⟩
  · exact ⟨h, kGood _ h⟩
theorem cw_B {R : Room} {s : State} {args : Array Value} {cls : String} {idx : Nat} {y : MI} {np dep' k' n' : Nat} (h : cw_ok cls idx y np) (hts : ∀ w ∈ kTB, w.before args s = true) (hf : dep' + 1 ≤ R.frames) (hlo : (dep' + 1) * kLW ≤ R.locals) : CallB R s args cls idx y.1 y.2.1 y.2.2.1 y.2.2.2 (kWs y) (kRm dep' k' n') k' n' np := by
  obtain ⟨w1, w2, w3, w4, w5⟩ := h
  refine callB_of np hts (kWs_good w3) rfl rfl rfl (hts _ w2) (hts _ w1) w4 ⟨hf, ?_⟩
  show 8 + (y.2.2.1 + 11) + dep' * kLW ≤ R.locals
  rw [Nat.add_mul] at hlo
  omega
/-- behind a call -/
theorem mm_call {own' : Nat → Nat → Bool} {k' n' : Nat} {Q' : Option Value → Mm → Prop} {D : va_G} {dA : Nat → ClassId} {A : Nat → Prop} {p : Program} {l : Launch} {e : Env} {R : Room} {s : State} {m : MethodId} {args : Array Value} {below : List Frame} {meth : Method} {c : Code} {Z : State → Prop} {H : Heap} {locs : List Loc} {cells slots : Nat} {g : JFrame} {rest : List Value}
    (hle : ∀ κ τ, own' κ τ = true → own κ τ = true) (X : Mx own M0 M D dA A s H locs)
    (hr : va_Run p l e R s m args below meth c H locs cells slots k' n' g rest (fun st oc t => (∃ (r : Option Value) (M' : Mm), oc = .returned r ∧ Q' r M' ∧ Fr own' M M' ∧ Rp D dA M' t.heap ∧ Kw D dA t ∧ ∀ q κ τ N : Nat, kd M' q = some (κ, τ, N) → kd M q = some (κ, τ, N) ∨ A q) ∧ va_F A st t) A)
    (kk : ∀ (r : Option Value) (M' : Mm) (H' : Heap) (locs' : List Loc), Q' r M' → Fr own' M M' → Mx own M0 M' D dA A s H' locs' → W p l e R s m args below meth c H' locs' (cells + k') (slots + n') Z { g with pc := g.pc + 3, stack := r.toList ++ rest }) : W p l e R s m args below meth c H locs cells slots Z g := by
  intro T hT Y
  obtain ⟨v, st₀, t, T', L', h0, Y', hL, e1, e2, ⟨⟨r, M', hv, hQ, hF, hRp, hKw, hAq⟩, hz, hk⟩, stp⟩ := hr T hT Y
  cases hv
  rw [h0] at hz hk
  obtain ⟨x1, x2, x3, x4⟩ := X
  have hX : Mx own M0 M' D dA A s T'.heap (locs ++ L') := by
    refine ⟨by rw [e1]; exact hRp, x2.trans (hF.mono hle), fun q κ τ N hq => (hAq q κ τ N hq).elim (fun h => x3 q κ τ N h) Or.inr, Nat.le_trans x4.1 (by rw [e1]; exact hz), fun q g1 g2 => ?_, fun q hq => ?_⟩
    · rw [e1, hk q (Nat.lt_of_lt_of_le g1 x4.1) g2]; exact x4.2.1 q g1 g2
    · rcases List.mem_append.mp hq with h | h
      · exact x4.2.2 q h
      · exact hL q h
  obtain ⟨t2, a1, b1⟩ := kk v M' T'.heap (locs ++ L') hQ hF hX T' rfl Y'
  exact ⟨t2, stp t2 a1, b1⟩
theorem zs_kept {pa : Pa} {A : Nat → Prop} {s : State} {H : Heap} {locs : List Loc} (h : Zs pa A s s.heap) (hS : va_S A s.heap H locs) : Zs pa A s H := by
  have kx : ∀ (b L : Nat) (xs : Nat → Int32), va_X b L xs s s.heap → ¬ A b → va_X b L xs s H := fun b L xs hX hA => by
    have hb : b < s.heap.size := by
      obtain ⟨scr, h1, -⟩ := hX
      exact (Array.getElem?_eq_some_iff.mp h1).1
    exact hX.kept (hS.2.1 b hb hA)
  obtain ⟨⟨cf, kf, fi, f, a, cell, h1, h2, h3, h4, h5, h6, h7, h8⟩, ⟨k1, k2⟩, k3, k4⟩ := h
  exact ⟨⟨cf, kf, fi, f, a, cell, h1, h2, h3, h4, by rw [hS.2.1 a (Array.getElem?_eq_some_iff.mp h5).1 h8]; exact h5, h6, h7, h8⟩, ⟨kx _ _ _ k1 k2, k2⟩, kx _ _ _ k3 k4, k4⟩
/-- what a caller must say of a callee's start -/
theorem mm_pre {D : va_G} {dA : Nat → ClassId} {pa : Pa} {A : Nat → Prop} {H : Heap} {s : State} {av : List Value} (hR : Rp D dA M H) (hK : Kw D dA s) (hZ : Zs pa A s H) : FrameBlind (va_Pc av (fun U => U.heap.size = H.size ∧ Rp D dA M U.heap ∧ Kw D dA U ∧ Zs pa A U U.heap)) ∧ ∀ U : State, U.heap = H → s.WarmedH U.vm → va_Pc av (fun U => U.heap.size = H.size ∧ Rp D dA M U.heap ∧ Kw D dA U ∧ Zs pa A U U.heap) av.toArray U := by
  refine ⟨fun a U g mk q => ?_, fun U hU hW => ⟨rfl, by rw [hU], by rw [hU]; exact hR, Kw.moved hW hK, by rw [hU]; exact Zs.moved hW.alike hZ⟩⟩
  obtain ⟨q0, q1, qR, qK, qZ⟩ := q
  exact ⟨q0, q1, qR, Kw.same (u := U) (U := U.calling g mk a) rfl qK, Zs.moved (u := U) (U := U.calling g mk a) (Vm.Alike.refl U.vm) qZ⟩
/-- invokevirtual of a method of the receiver's own class -/
theorem g_callV {idx ci τ N a np dep' k' n' k1 n1 : Nat} {y : MI} {own' : Nat → Nat → Bool} {o : Option Nat} {rest : List Value} {Q' : Option Value → Mm → Prop} (As : List Value) (hcw : cw_ok mi.1.cls idx y np) (hV : Cond.instanceMethod y.1 ∈ kTB ∧ Cond.selects y.1.cls y.1 y.1 ∈ kTB ∧ (∃ r : vw_C, kCl[ci]? = some r ∧ r.1 = y.1.cls) ∧ kAty ci = none) (hd : decode mi.2.1 pc = .ok (.invokevirtual idx, 3)) (ho : o = some a) (hk : kd M a = some (ci, τ, N)) (hA : As.length = np) (hst : st = As.reverse ++ va_rf o :: rest) (hrc : (∀ v ∈ rest, v.category = 1) ∧ rest.length ≤ 8)
    (hdep : dep' + 1 ≤ dep) (hk1 : k1 + k' ≤ k) (hn1 : n1 + n' ≤ n) (hle : ∀ κ τ, own' κ τ = true → own κ τ = true) (hr : Run y own' dep' k' n' (va_rf (some a) :: As) M Q') (kk : ∀ (r : Option Value) (M' : Mm), Q' r M' → Fr own' M M' → G mi own M0 Q dep k1 n1 M' (pc + 3) L (r.toList ++ rest)) : G mi own M0 Q dep k n M pc L st := by
  subst ho
  intro p l e R s m args below meth c D dA pa A mc ms Z H locs cells slots ls C X hl h1 h2
  obtain ⟨hx, hb, hml, hown, hts, hnm, hK, hAs, hA0, hmc, hms, hfr, hlo, hZ0, -⟩ := id C
  obtain ⟨v1, v2, ⟨r0, hr0, hrn⟩, hna⟩ := hV
  obtain ⟨r', hr', hN', cellB, g1, g2, g3, -⟩ := mm_obj X.1 hk hna
  cases hr0.symm.trans hr'
  have hM := hr l D dA pa A H.size (fun q hq => hAs q (Nat.le_trans X.2.2.2.1 hq)) (fun q κ τ' N' hq ho => (X.2.2.1 q κ τ' N' hq).elim (fun h => hA0 q κ τ' N' h (hle κ τ' ho)) id)
  have hp := mm_pre (av := va_rf (some a) :: As) X.1 hK (zs_kept hZ0.2.2 X.2.2.2)
  refine mm_call hle X (va_runV (C := y.1.cls) (As := As) (rest := rest) ⟨hx, hb, hml, hown, hts⟩ hM ⟨cw_B hcw hts (Nat.le_trans hdep hfr) (Nat.le_trans (Nat.mul_le_mul_right _ hdep) hlo), hts _ v1, hts _ v2⟩ ⟨hp.1, ⟨cellB, g1, by rw [g3]; rfl, by rw [← hrn, g2]; exact (hK.1 ci _ hr0).2.1⟩, hp.2⟩ rfl hA hl.1.1 hst (lv_room (by rw [cs_sum hrc.1]; exact hrc.2)) hd ⟨by omega, by omega⟩) fun r M' H' locs' hQ hF hX => ?_
  exact kk r M' hQ hF p l e R s m args below meth c D dA pa A mc ms Z H' locs' (cells + k') (slots + n') ls C hX hl (by omega) (by omega)
theorem g_callS {idx np dep' k' n' k1 n1 : Nat} {y : MI} {own' : Nat → Nat → Bool} {rest : List Value} {Q' : Option Value → Mm → Prop} (As : List Value) (hcw : cw_ok mi.1.cls idx y np) (hV : Cond.static y.1 ∈ kTB) (hd : decode mi.2.1 pc = .ok (.invokestatic idx, 3)) (hA : As.length = np) (hst : st = As.reverse ++ rest) (hrc : (∀ v ∈ rest, v.category = 1) ∧ rest.length ≤ 8)
    (hdep : dep' + 1 ≤ dep) (hk1 : k1 + k' ≤ k) (hn1 : n1 + n' ≤ n) (hle : ∀ κ τ, own' κ τ = true → own κ τ = true) (hr : Run y own' dep' k' n' As M Q') (kk : ∀ (r : Option Value) (M' : Mm), Q' r M' → Fr own' M M' → G mi own M0 Q dep k1 n1 M' (pc + 3) L (r.toList ++ rest)) : G mi own M0 Q dep k n M pc L st := by
  intro p l e R s m args below meth c D dA pa A mc ms Z H locs cells slots ls C X hl h1 h2
  obtain ⟨hx, hb, hml, hown, hts, hnm, hK, hAs, hA0, hmc, hms, hfr, hlo, hZ0, -⟩ := id C
  have hM := hr l D dA pa A H.size (fun q hq => hAs q (Nat.le_trans X.2.2.2.1 hq)) (fun q κ τ' N' hq ho => (X.2.2.1 q κ τ' N' hq).elim (fun h => hA0 q κ τ' N' h (hle κ τ' ho)) id)
  have hp := mm_pre (av := As) X.1 hK (zs_kept hZ0.2.2 X.2.2.2)
  refine mm_call hle X (va_runS (As := As) (rest := rest) ⟨hx, hb, hml, hown, hts⟩ hM ⟨cw_B hcw hts (Nat.le_trans hdep hfr) (Nat.le_trans (Nat.mul_le_mul_right _ hdep) hlo), hts _ hV⟩ hp rfl hA hl.1.1 hst (lv_room (by rw [cs_sum hrc.1]; exact hrc.2)) hd ⟨by omega, by omega⟩) fun r M' H' locs' hQ hF hX => ?_
  exact kk r M' hQ hF p l e R s m args below meth c D dA pa A mc ms Z H' locs' (cells + k') (slots + n') ls C hX hl (by omega) (by omega)
theorem g_callI {idx a np dep' k' n' k1 n1 : Nat} {y : MI} {own' : Nat → Nat → Bool} {o : Option Nat} {rest : List Value} {Q' : Option Value → Mm → Prop} (As : List Value) (hcw : cw_ok mi.1.cls idx y np) (hV : Cond.instanceMethod y.1 ∈ kTB ∧ y.1.name = "<init>" ∧ y.2.2.2 = none) (hd : decode mi.2.1 pc = .ok (.invokespecial idx, 3)) (ho : o = some a) (hA : As.length = np) (hst : st = As.reverse ++ va_rf o :: rest) (hrc : (∀ v ∈ rest, v.category = 1) ∧ rest.length ≤ 8)
    (hdep : dep' + 1 ≤ dep) (hk1 : k1 + k' ≤ k) (hn1 : n1 + n' ≤ n) (hle : ∀ κ τ, own' κ τ = true → own κ τ = true) (hr : Run y own' dep' k' n' (va_rf (some a) :: As) M Q') (kk : ∀ (r : Option Value) (M' : Mm), Q' r M' → Fr own' M M' → G mi own M0 Q dep k1 n1 M' (pc + 3) L (r.toList ++ rest)) : G mi own M0 Q dep k n M pc L st := by
  subst ho
  intro p l e R s m args below meth c D dA pa A mc ms Z H locs cells slots ls C X hl h1 h2
  obtain ⟨hx, hb, hml, hown, hts, hnm, hK, hAs, hA0, hmc, hms, hfr, hlo, hZ0, -⟩ := id C
  have hM := hr l D dA pa A H.size (fun q hq => hAs q (Nat.le_trans X.2.2.2.1 hq)) (fun q κ τ' N' hq ho => (X.2.2.1 q κ τ' N' hq).elim (fun h => hA0 q κ τ' N' h (hle κ τ' ho)) id)
  have hp := mm_pre (av := va_rf (some a) :: As) X.1 hK (zs_kept hZ0.2.2 X.2.2.2)
  have hcb := cw_B (R := R) (s := s) (args := args) (dep' := dep') (k' := k') (n' := n') hcw hts (Nat.le_trans hdep hfr) (Nat.le_trans (Nat.mul_le_mul_right _ hdep) hlo)
  rw [hV.2.2] at hcb
  refine mm_call hle X (va_runI (As := As) (rest := rest) ⟨hx, hb, hml, hown, hts⟩ hM ⟨hcb, hV.2.1, hts _ hV.1⟩ hp rfl hA hl.1.1 hst (lv_room (by rw [cs_sum hrc.1]; exact hrc.2)) hd ⟨by omega, by omega⟩) fun r M' H' locs' hQ hF hX => ?_
  exact kk r M' hQ hF p l e R s m args below meth c D dA pa A mc ms Z H' locs' (cells + k') (slots + n') ls C hX hl (by omega) (by omega)
/-- Object's constructor -/
theorem g_objInit {idx a : Nat} {o : Option Nat} (hw : Cond.methodLink mi.1.cls idx Lib.objectInit ∈ kTB ∧ Cond.instanceMethod Lib.objectInit ∈ kTB ∧ Cond.code Lib.objectInit ⟨#[0xb1]⟩ 1 none ∈ kTB) (hd : decode mi.2.1 pc = .ok (.invokespecial idx, 3)) (ho : o = some a) (hrc : (∀ v ∈ st, v.category = 1) ∧ st.length ≤ 8) (hdep : 1 ≤ dep) (kk : G mi own M0 Q dep k n M (pc + 3) L st) : G mi own M0 Q dep k n M pc L (va_rf o :: st) := by
  subst ho
  intro p l e R s m args below meth c D dA pa A mc ms Z H locs cells slots ls C X hl h1 h2
  obtain ⟨hx, hb, hml, hown, hts, hnm, hK, hAs, hA0, hmc, hms, hfr, hlo, hZ0, -⟩ := id C
  have hlw : kLW ≤ R.locals := by
    refine Nat.le_trans ?_ hlo
    calc kLW = 1 * kLW := (Nat.one_mul _).symm
      _ ≤ dep * kLW := Nat.mul_le_mul_right _ hdep
  have hr2 : 2 * (F0 m pc ls st).monitorRoom + (st.map fun v => v.category).sum ≤ 8 := lv_room (by rw [cs_sum hrc.1]; exact hrc.2)
  exact W.objInit hx hb hown (hts _ hw.1) (hts _ hw.2.1) (hts _ hw.2.2) rfl (by rw [hml]; exact hl.1.1) rfl hd (by omega) (by
    have : (37 : Nat) ≤ R.locals := hlw
    have h8 : 2 * (F0 m pc ls (va_rf (some a) :: st)).monitorRoom + (st.map fun v => v.category).sum ≤ 8 := hr2
    show 2 * (F0 m pc ls (va_rf (some a) :: st)).monitorRoom + (st.map fun v => v.category).sum + 12 ≤ R.locals
    omega) (kk p l e R s m args below meth c D dA pa A mc ms Z H locs cells slots ls C X hl h1 h2)
theorem g_ior {x y : Int32} (hd : decode mi.2.1 pc = .ok (.ior, 1)) (kk : G mi own M0 Q dep k n M (pc + 1) L (.int (x ||| y) :: st)) : G mi own M0 Q dep k n M pc L (.int y :: .int x :: st) := g_go (fun hx hb _ _ _ w => lv_ior hx hb hd w) kk
theorem g_zald {a κ τ N j : Nat} {o : Option Nat} {i : Int32} (hd : decode mi.2.1 pc = .ok (.baload, 1)) (ho : o = some a) (hk : kd M a = some (κ, τ, N)) (ha : kAty κ = some .boolean) (hi : i = nI j) (hj : j < N) (hN : N < 2 ^ 31) (kk : G mi own M0 Q dep k n M (pc + 1) L (.int (gi M a (4096 + j)) :: st)) : G mi own M0 Q dep k n M pc L (.int i :: va_rf o :: st) := by
  subst ho; subst hi
  intro p l e R s m args below meth c D dA pa A mc ms Z H locs cells slots ls C X hl h1 h2
  obtain ⟨hx, hb, hml, hown, hts, hnm, hK, -⟩ := id C
  refine W.zald (v := .int (gi M a (4096 + j))) hx hb (mm_arr X.1 hk ha) ((hK.2.1 κ .boolean ha).1 N (ev M a .boolean)) (fun q => by cases q) (nI_vp hj hN _ _) ?_ rfl rfl hd (kk p l e R s m args below meth c D dA pa A mc ms Z H locs cells slots ls C X hl h1 h2)
  rw [nI_clamp (by omega), arrV_read _ _ hj]
  rfl
theorem g_zast {a κ τ N j : Nat} {o : Option Nat} {i x : Int32} (hd : decode mi.2.1 pc = .ok (.bastore, 1)) (ho : o = some a) (hk : kd M a = some (κ, τ, N)) (ha : kAty κ = some .boolean) (hw : own κ τ = true) (hx01 : x = 0 ∨ x = 1) (hi : i = nI j) (hj : j < N) (hN : N < 2 ^ 31) (kk : G mi own M0 Q dep k n (si M a (4096 + j) x) (pc + 1) L st) : G mi own M0 Q dep k n M pc L (.int x :: .int i :: va_rf o :: st) := by
  subst ho; subst hi
  intro p l e R s m args below meth c D dA pa A mc ms Z H locs cells slots ls C X hl h1 h2
  obtain ⟨hx, hb, hml, hown, hts, hnm, hK, -⟩ := id C
  refine W.zast hx hb (mm_arr X.1 hk ha) ((hK.2.1 κ .boolean ha).1 N (ev M a .boolean)) (fun q => by cases q) (nI_vp hj hN _ _) rfl rfl hd fun H1 e1 e2 e3 => ?_
  have e9 : narrow .boolean (.int x) = .int x := by rcases hx01 with rfl | rfl <;> rfl
  rw [nI_clamp (by omega)] at e1
  first | rw [e9] at e1 | (simp only [vp_nar, e9] at e1) | skip
  rw [arrV_store, ev_si rfl] at e1
  have hat : mm_at D dA (si M a (4096 + j) x) a κ N H1 := by
    unfold mm_at
    rw [ha]
    exact e1
  exact kk p l e R s m args below meth c D dA pa A mc ms Z H1 _ cells slots ls C (mm_put C.2.2.2.2.2.2.2.2.1 X hk hw (fun _ => rfl) (fun b g hb => gi_si_a hb M _ g x) (fun _ _ _ => rfl) (X.2.1.si hk hw _ x) hat e2 e3) hl h1 h2
theorem g_newz {κ N k' n' : Nat} (τ : Nat) {i : Int32} (ha : kAty κ = some .boolean) (hw : Cond.arrayClass .boolean ∈ kTB) (hd : decode mi.2.1 pc = .ok (.newarray .boolean, 2)) (hi : i = nI N) (hN : N < 2 ^ 27) (hk : k' + 1 ≤ k) (hn : n' + N ≤ n) (kk : ∀ q : Nat, kd M q = none → G mi own M0 Q dep k' n' (nw M q κ τ N) (pc + 2) L (va_rf (some q) :: st)) : G mi own M0 Q dep k n M pc L (.int i :: st) := by
  subst hi
  intro p l e R s m args below meth c D dA pa A mc ms Z H locs cells slots ls C X hl h1 h2
  obtain ⟨hx, hb, hml, hown, hts, hnm, hK, hA, -, hmc, hms, -⟩ := id C
  refine va_newaK (atype := .boolean) (N := N) hx hb (hts _ hw) rfl hd rfl (nI_pos (by omega)) (nI_clamp (by omega)) (by show N * 1 ≤ _; omega) (by omega) (by omega) rfl fun H1 cA e1 z1 o1 hAr hNm => ?_
  have hat : mm_at D dA (nw M H.size κ τ N) H.size κ N H1 := by
    unfold mm_at
    rw [ha]
    have hc : cA = dA κ := Option.some.inj (hNm.symm.trans (hK.2.1 κ _ ha).2)
    have he : ev (nw M H.size κ τ N) H.size .boolean = (fun _ => defaultValue .boolean) := by
      funext j
      unfold ev
      rw [gi_nw, if_pos rfl]
      rfl
    show H1[H.size]? = some (arrV (dA κ) N (ev (nw M H.size κ τ N) H.size .boolean))
    rw [he, ← hc]
    exact e1
  exact kk H.size X.1.fresh p l e R s m args below meth c D dA pa A mc ms Z H1 locs (cells + 1) (slots + N) ls C (mm_new X hA hat z1 o1) hl (by omega) (by omega)
/-- the class's static table -/
theorem g_partsLen {idx : Nat} (hw : Cond.fieldLink mi.1.cls idx "FiberDesk" "PARTS" "[I" ∈ kTB) (hd : decode mi.2.1 pc = .ok (.getstatic idx, 3)) (hd2 : decode mi.2.1 (pc + 3) = .ok (.arraylength, 1)) (kk : G mi own M0 Q dep k n M (pc + 3 + 1) L (.int (nI 26) :: st)) : G mi own M0 Q dep k n M pc L st := by
  intro p l e R s m args below meth c D dA pa A mc ms Z H locs cells slots ls C X hl h1 h2
  obtain ⟨hx, hb, hml, hown, hts, hnm, hK, hAs, hA0, hmc, hms, hfr, hlo, hZ0, -⟩ := id C
  obtain ⟨z1, ⟨z2, z3⟩, -, -⟩ := hZ0.2.2
  have hlt : pa.1 < s.heap.size := by
    obtain ⟨scr, q1, -⟩ := z2
    exact (Array.getElem?_eq_some_iff.mp q1).1
  exact va_gets hx hb z1 X.2.2.2 hown (hts _ hw) (fun _ h => h) hd (va_slen hx hb z2 hlt z3 X.2.2.2 hd2 (kk p l e R s m args below meth c D dA pa A mc ms Z H locs cells slots ls C X hl h1 h2))
theorem g_partsAt {idx j : Nat} {i : Fin 4} {x v : Int32} (hw : Cond.fieldLink mi.1.cls idx "FiberDesk" "PARTS" "[I" ∈ kTB) (hd : decode mi.2.1 pc = .ok (.getstatic idx, 3)) (hd2 : decode mi.2.1 (pc + 3) = .ok (.iload_n i, 1)) (hl0 : L[i.val]? = some (some (.int x))) (hd3 : decode mi.2.1 (pc + 3 + 1) = .ok (.iaload, 1)) (hx0 : x = nI j) (hj : j < 26) (hv : kParts.getD j 0 = v) (kk : G mi own M0 Q dep k n M (pc + 3 + 1 + 1) L (.int v :: st)) : G mi own M0 Q dep k n M pc L st := by
  intro p l e R s m args below meth c D dA pa A mc ms Z H locs cells slots ls C X hl h1 h2
  obtain ⟨hx, hb, hml, hown, hts, hnm, hK, hAs, hA0, hmc, hms, hfr, hlo, hZ0, -⟩ := id C
  obtain ⟨z1, ⟨z2, z3⟩, -, -⟩ := hZ0.2.2
  have hlt : pa.1 < s.heap.size := by
    obtain ⟨scr, q1, -⟩ := z2
    exact (Array.getElem?_eq_some_iff.mp q1).1
  subst hx0
  refine va_gets hx hb z1 X.2.2.2 hown (hts _ hw) (fun _ h => h) hd ?_
  refine lv_iload_n hx hb hd2 rfl (hl.at hl0) ?_
  refine va_sld hx hb z2 hlt z3 X.2.2.2 (vp_in_nI hj (by decide)) hd3 ?_
  rw [nI_clamp (by omega), hv]
  exact kk p l e R s m args below meth c D dA pa A mc ms Z H locs cells slots ls C X hl h1 h2
/-- the script, read in the law -/
theorem g_scrLen {b N : Nat} (hc : mi.1.cls = "FiberDeskLaw") (h0 : gr M0 0 0 = some b) (h1' : gr M0 0 1 = some N) (hd : decode mi.2.1 pc = .ok (.arraylength, 1)) (kk : G mi own M0 Q dep k n M (pc + 1) L (.int (nI N) :: st)) : G mi own M0 Q dep k n M pc L (va_rf (some b) :: st) := by
  intro p l e R s m args below meth c D dA pa A mc ms Z H locs cells slots ls C X hl h1 h2
  obtain ⟨hx, hb, hml, hown, hts, hnm, hK, hAs, hA0, hmc, hms, hfr, hlo, hZ0, -⟩ := id C
  obtain ⟨-, -, z2, z3⟩ := hZ0.2.2
  obtain ⟨e1, e2, -⟩ := hZ0.1 hc
  have eb : pa.2.1 = b := Option.some.inj (e1.symm.trans h0)
  have eN : pa.2.2.1 = N := Option.some.inj (e2.symm.trans h1')
  rw [eb, eN] at z2
  rw [eb] at z3
  have hlt : b < s.heap.size := by
    obtain ⟨scr, q1, -⟩ := z2
    exact (Array.getElem?_eq_some_iff.mp q1).1
  exact va_slen hx hb z2 hlt z3 X.2.2.2 hd (kk p l e R s m args below meth c D dA pa A mc ms Z H locs cells slots ls C X hl h1 h2)
theorem g_scrAt {b N j : Nat} {x v : Int32} (hc : mi.1.cls = "FiberDeskLaw") (h0 : gr M0 0 0 = some b) (h1' : gr M0 0 1 = some N) (hv : gi M0 0 (4096 + j) = v) (hd : decode mi.2.1 pc = .ok (.iaload, 1)) (hx0 : x = nI j) (hj : j < N) (hN : N < 2 ^ 31) (kk : G mi own M0 Q dep k n M (pc + 1) L (.int v :: st)) : G mi own M0 Q dep k n M pc L (.int x :: va_rf (some b) :: st) := by
  intro p l e R s m args below meth c D dA pa A mc ms Z H locs cells slots ls C X hl h1 h2
  obtain ⟨hx, hb, hml, hown, hts, hnm, hK, hAs, hA0, hmc, hms, hfr, hlo, hZ0, -⟩ := id C
  obtain ⟨-, -, z2, z3⟩ := hZ0.2.2
  obtain ⟨e1, e2, e3⟩ := hZ0.1 hc
  have eb : pa.2.1 = b := Option.some.inj (e1.symm.trans h0)
  have eN : pa.2.2.1 = N := Option.some.inj (e2.symm.trans h1')
  rw [eb, eN] at z2
  rw [eb] at z3
  have hlt : b < s.heap.size := by
    obtain ⟨scr, q1, -⟩ := z2
    exact (Array.getElem?_eq_some_iff.mp q1).1
  subst hx0
  refine va_sld hx hb z2 hlt z3 X.2.2.2 (vp_in_nI hj hN) hd ?_
  rw [nI_clamp (by omega), ← e3 j, hv]
  exact kk p l e R s m args below meth c D dA pa A mc ms Z H locs cells slots ls C X hl h1 h2
/-- what a call of a nest mate's private member needs -/
def cn_ok (cls : String) (idx : Nat) (y : MI) (np : Nat) : Prop := (cls, idx, y.1) ∈ kNest ∧ Cond.initialized y.1.cls ∈ kTB ∧ Cond.code y.1 y.2.1 y.2.2.1 y.2.2.2 ∈ kTB ∧ (y.1.cls ≠ "java/lang/invoke/MethodHandle" ∧ y.1.cls ≠ "java/lang/invoke/VarHandle" ∧ (parseMethodDescriptor y.1.desc).map (fun d => d.parameters.length) = some np) ∧ y.2.2.1 + 19 ≤ kLW
theorem cn_B {D : va_G} {dA : Nat → ClassId} {R : Room} {s : State} {args : Array Value} {cls : String} {idx : Nat} {y : MI} {np dep' k' n' : Nat} (h : cn_ok cls idx y np) (hK : Kw D dA s) (hts : ∀ w ∈ kTB, w.before args s = true) (hf : dep' + 1 ≤ R.frames) (hlo : (dep' + 1) * kLW ≤ R.locals) : va_CN R s args cls idx y.1 "FiberDesk" y.2.1 y.2.2.1 y.2.2.2 (kWs y) (kRm dep' k' n') k' n' np := by
  obtain ⟨w1, w2, w3, w4, w5⟩ := h
  refine va_cnB np hts (kWs_good w3) rfl rfl rfl (hK.2.2.1 _ w1) (hts _ w2) w4 ⟨hf, ?_⟩
  show 8 + (y.2.2.1 + 11) + dep' * kLW ≤ R.locals
  rw [Nat.add_mul] at hlo
  omega
theorem g_callIN {idx a np dep' k' n' k1 n1 : Nat} {y : MI} {own' : Nat → Nat → Bool} {o : Option Nat} {rest : List Value} {Q' : Option Value → Mm → Prop} (As : List Value) (hcw : cn_ok mi.1.cls idx y np) (hV : Cond.instanceMethod y.1 ∈ kTB ∧ y.1.name = "<init>" ∧ y.2.2.2 = none) (hd : decode mi.2.1 pc = .ok (.invokespecial idx, 3)) (ho : o = some a) (hA : As.length = np) (hst : st = As.reverse ++ va_rf o :: rest) (hrc : (∀ v ∈ rest, v.category = 1) ∧ rest.length ≤ 8)
    (hdep : dep' + 1 ≤ dep) (hk1 : k1 + k' ≤ k) (hn1 : n1 + n' ≤ n) (hle : ∀ κ τ, own' κ τ = true → own κ τ = true) (hr : Run y own' dep' k' n' (va_rf (some a) :: As) M Q') (kk : ∀ (r : Option Value) (M' : Mm), Q' r M' → Fr own' M M' → G mi own M0 Q dep k1 n1 M' (pc + 3) L (r.toList ++ rest)) : G mi own M0 Q dep k n M pc L st := by
  subst ho
  intro p l e R s m args below meth c D dA pa A mc ms Z H locs cells slots ls C X hl h1 h2
  obtain ⟨hx, hb, hml, hown, hts, hnm, hK, hAs, hA0, hmc, hms, hfr, hlo, hZ0, -⟩ := id C
  have hM := hr l D dA pa A H.size (fun q hq => hAs q (Nat.le_trans X.2.2.2.1 hq)) (fun q κ τ' N' hq ho => (X.2.2.1 q κ τ' N' hq).elim (fun h => hA0 q κ τ' N' h (hle κ τ' ho)) id)
  have hp := mm_pre (av := va_rf (some a) :: As) X.1 hK (zs_kept hZ0.2.2 X.2.2.2)
  have hcb := cn_B (R := R) (s := s) (args := args) (dep' := dep') (k' := k') (n' := n') hcw hK hts (Nat.le_trans hdep hfr) (Nat.le_trans (Nat.mul_le_mul_right _ hdep) hlo)
  rw [hV.2.2] at hcb
  refine mm_call hle X (va_runIN (As := As) (rest := rest) ⟨hx, hb, hml, hown, hts⟩ hM ⟨hcb, hV.2.1, hts _ hV.1⟩ hp rfl hA hl.1.1 hst (lv_room (by rw [cs_sum hrc.1]; exact hrc.2)) hd ⟨by omega, by omega⟩) fun r M' H' locs' hQ hF hX => ?_
  exact kk r M' hQ hF p l e R s m args below meth c D dA pa A mc ms Z H' locs' (cells + k') (slots + n') ls C hX hl (by omega) (by omega)
theorem g_callSN {idx np dep' k' n' k1 n1 : Nat} {y : MI} {own' : Nat → Nat → Bool} {rest : List Value} {Q' : Option Value → Mm → Prop} (As : List Value) (hcw : cn_ok mi.1.cls idx y np) (hV : Cond.static y.1 ∈ kTB) (hd : decode mi.2.1 pc = .ok (.invokestatic idx, 3)) (hA : As.length = np) (hst : st = As.reverse ++ rest) (hrc : (∀ v ∈ rest, v.category = 1) ∧ rest.length ≤ 8)
    (hdep : dep' + 1 ≤ dep) (hk1 : k1 + k' ≤ k) (hn1 : n1 + n' ≤ n) (hle : ∀ κ τ, own' κ τ = true → own κ τ = true) (hr : Run y own' dep' k' n' As M Q') (kk : ∀ (r : Option Value) (M' : Mm), Q' r M' → Fr own' M M' → G mi own M0 Q dep k1 n1 M' (pc + 3) L (r.toList ++ rest)) : G mi own M0 Q dep k n M pc L st := by
  intro p l e R s m args below meth c D dA pa A mc ms Z H locs cells slots ls C X hl h1 h2
  obtain ⟨hx, hb, hml, hown, hts, hnm, hK, hAs, hA0, hmc, hms, hfr, hlo, hZ0, -⟩ := id C
  have hM := hr l D dA pa A H.size (fun q hq => hAs q (Nat.le_trans X.2.2.2.1 hq)) (fun q κ τ' N' hq ho => (X.2.2.1 q κ τ' N' hq).elim (fun h => hA0 q κ τ' N' h (hle κ τ' ho)) id)
  have hp := mm_pre (av := As) X.1 hK (zs_kept hZ0.2.2 X.2.2.2)
  have hcb := cn_B (R := R) (s := s) (args := args) (dep' := dep') (k' := k') (n' := n') hcw hK hts (Nat.le_trans hdep hfr) (Nat.le_trans (Nat.mul_le_mul_right _ hdep) hlo)
  refine mm_call hle X (va_runSN (As := As) (rest := rest) ⟨hx, hb, hml, hown, hts⟩ hM ⟨hcb, hts _ hV, trivial⟩ hp rfl hA hl.1.1 hst (lv_room (by rw [cs_sum hrc.1]; exact hrc.2)) hd ⟨by omega, by omega⟩) fun r M' H' locs' hQ hF hX => ?_
  exact kk r M' hQ hF p l e R s m args below meth c D dA pa A mc ms Z H' locs' (cells + k') (slots + n') ls C hX hl (by omega) (by omega)
theorem g_min {idx : Nat} {x y : Int32} (hw : Cond.methodLink mi.1.cls idx Lib.Math.min.name ∈ kTB ∧ Cond.static Lib.Math.min.name ∈ kTB ∧ Cond.initialized "java/lang/Math" ∈ kTB ∧ Cond.code Lib.Math.min.name Lib.Math.min.code 2 (some .int) ∈ kTB) (hd : decode mi.2.1 pc = .ok (.invokestatic idx, 3)) (hrc : (∀ v ∈ st, v.category = 1) ∧ st.length ≤ 8) (hdep : 1 ≤ dep) (kk : G mi own M0 Q dep k n M (pc + 3) L (.int (if y < x then y else x) :: st)) : G mi own M0 Q dep k n M pc L (.int y :: .int x :: st) := by
  intro p l e R s m args below meth c D dA pa A mc ms Z H locs cells slots ls C X hl h1 h2
  obtain ⟨hx, hb, hml, hown, hts, hnm, hK, hAs, hA0, hmc, hms, hfr, hlo, hZ0, -⟩ := id C
  have hlw : kLW ≤ R.locals := by
    refine Nat.le_trans ?_ hlo
    calc kLW = 1 * kLW := (Nat.one_mul _).symm
      _ ≤ dep * kLW := Nat.mul_le_mul_right _ hdep
  have : (37 : Nat) ≤ R.locals := hlw
  exact va_mmin hx hb (by rw [hml]; exact hl.1.1.symm) hown (hts _ hw.1) (hts _ hw.2.1) (hts _ hw.2.2.1) (hts _ hw.2.2.2) (by omega) (by rw [cs_sum hrc.1]; omega) (by omega) (by omega) hd (kk p l e R s m args below meth c D dA pa A mc ms Z H locs cells slots ls C X hl h1 h2)
/-- the memory behind a copy of ln ints of array a0 from sp on to array a from dp on -/
def cpM (M : Mm) (a0 a sp dp ln : Nat) : Mm := (M.1, fun b g => if b = a ∧ 4096 + dp ≤ g ∧ g < 4096 + dp + ln then M.2.1 a0 (g - dp + sp) else M.2.1 b g, M.2.2)
theorem gi_cpM (M : Mm) (a0 a sp dp ln b g : Nat) : gi (cpM M a0 a sp dp ln) b g = if b = a ∧ 4096 + dp ≤ g ∧ g < 4096 + dp + ln then gi M a0 (g - dp + sp) else gi M b g := rfl
theorem g_copy {idx a0 a κ0 κ1 τ0 τ1 N0 N1 sp dp ln : Nat} {o0 o1 : Option Nat} {x y z : Int32} (hw : Cond.methodLink mi.1.cls idx arraycopyName ∈ kTB ∧ Cond.native arraycopyName ∈ kTB ∧ Cond.static arraycopyName ∈ kTB ∧ Cond.initialized "java/lang/System" ∈ kTB) (hd : decode mi.2.1 pc = .ok (.invokestatic idx, 3)) (ho0 : o0 = some a0) (ho1 : o1 = some a) (hk0 : kd M a0 = some (κ0, τ0, N0)) (hk1 : kd M a = some (κ1, τ1, N1)) (ha0 : kAty κ0 = some .int) (ha1 : kAty κ1 = some .int) (hown1 : own κ1 τ1 = true)
    (hx0 : x = nI sp) (hy0 : y = nI dp) (hz0 : z = nI ln) (h4 : sp + ln ≤ N0) (h5 : dp + ln ≤ N1) (hN0 : N0 < 2 ^ 31) (hN1 : N1 < 2 ^ 31) (hrc : (∀ v ∈ st, v.category = 1) ∧ st.length ≤ 8) (hdep : 1 ≤ dep) (kk : G mi own M0 Q dep k n (cpM M a0 a sp dp ln) (pc + 3) L st) : G mi own M0 Q dep k n M pc L (.int z :: .int y :: va_rf o1 :: .int x :: va_rf o0 :: st) := by
  subst ho0; subst ho1; subst hx0; subst hy0; subst hz0
  intro p l e R s m args below meth c D dA pa A mc ms Z H locs cells slots ls C X hl h1 h2
  obtain ⟨hx, hb, hml, hown, hts, hnm, hK, hAs, hA0, hmc, hms, hfr, hlo, hZ0, -⟩ := id C
  have hlw : (37 : Nat) ≤ R.locals := by
    refine Nat.le_trans ?_ hlo
    calc (37 : Nat) = 1 * kLW := rfl
      _ ≤ dep * kLW := Nat.mul_le_mul_right _ hdep
  have cs : (nI sp).toNatClampNeg = sp := nI_clamp (by omega)
  have cd : (nI dp).toNatClampNeg = dp := nI_clamp (by omega)
  have cl : (nI ln).toNatClampNeg = ln := nI_clamp (by omega)
  have hc0 := mm_arr X.1 hk0 ha0
  have hc1 := mm_arr X.1 hk1 ha1
  obtain ⟨-, k0, hkk0, cm0, hkn0⟩ := (hK.2.1 κ0 _ ha0).1 N0 (ev M a0 .int)
  obtain ⟨-, k1, hkk1, cm1, hkn1⟩ := (hK.2.1 κ1 _ ha1).1 N1 (ev M a .int)
  intro T hT Y
  obtain ⟨vm', Y', step⟩ := Y.arraycopy hx hown (hts _ hw.1) (hts _ hw.2.1) (hts _ hw.2.2.1) (hts _ hw.2.2.2) (src := a0) (dst := a) (cs := arrV (dA κ0) N0 (ev M a0 .int)) (cd := arrV (dA κ1) N1 (ev M a .int)) (srcPos := nI sp) (destPos := nI dp) (n := nI ln) (by rw [hT]; exact hc0) (by rw [hT]; exact hc1)
    (fun _ h => by cases h) (fun _ h => by cases h) (fun h => by cases h) (fun h => by cases h) hkk0 hkk1 hkn0 hkn1 (by simp [refKind]) (nI_pos (by omega)) (nI_pos (by omega)) (nI_pos (by omega))
    (by rw [nI_toInt (by omega), nI_toInt (by omega)]; show ¬ _ > ((arrV (dA κ0) N0 (ev M a0 .int)).slots.size : Int); rw [arrV_size]; omega)
    (by rw [nI_toInt (by omega), nI_toInt (by omega)]; show ¬ _ > ((arrV (dA κ1) N1 (ev M a .int)).slots.size : Int); rw [arrV_size]; omega)
    (fun vm₁ _ i hi => by
      have e : (arrV (dA κ0) N0 (ev M a0 .int)).slots.getD ((nI sp).toNatClampNeg + i) .null = .int (gi M a0 (4096 + (sp + i))) := by
        rw [Array.getD_eq_getD_getElem?, cs, arrV_read _ _ (by rw [cl] at hi; omega)]
        rfl
      refine ⟨?_, ?_⟩
      · rw [e]; rfl
      · rw [e]; exact trivial)
    (g := F0 m pc ls (.int (nI ln) :: .int (nI dp) :: .ref a :: .int (nI sp) :: .ref a0 :: st)) rfl (by rw [hml]; exact hl.1.1) (rest := st) rfl (by rw [hb]; exact hd) (by omega) (by show 2 * 0 + _ + _ ≤ _; rw [cs_sum hrc.1]; show 2 * 0 + st.length + (7 + 11) ≤ R.locals; omega)
  have e1 : copied (arrV (dA κ0) N0 (ev M a0 .int)) (arrV (dA κ1) N1 (ev M a .int)) (nI sp) (nI dp) (nI ln) = arrV (dA κ1) N1 (ev (cpM M a0 a sp dp ln) a .int) := by
    have h := va_copied (fun z : Int32 => Value.int z) (dA κ0) (dA κ1) (n0 := N0) (n1 := N1) (sp := sp) (dp := dp) (n := ln) (fun j => gi M a0 (4096 + j)) (fun j => gi M a (4096 + j)) h4
    have h' : copied (arrV (dA κ0) N0 (ev M a0 .int)) (arrV (dA κ1) N1 (ev M a .int)) (nI sp) (nI dp) (nI ln) = (arrV (dA κ1) N1 (fun j => Value.int (gi M a (4096 + j)))).storeRun dp ((arrV (dA κ0) N0 (fun j => Value.int (gi M a0 (4096 + j)))).stretch sp ln) := by
      unfold copied
      rw [cs, cd, cl]
      rfl
    rw [h', h]
    congr 1
    funext j
    unfold ev va_cpy
    rw [gi_cpM]
    simp only [kInt, if_true]
    by_cases hj : dp ≤ j ∧ j < dp + ln
    · rw [if_pos hj, if_pos ⟨trivial, by omega, by omega⟩]
      rw [show 4096 + j - dp + sp = 4096 + (sp + (j - dp)) by omega]
    · rw [if_neg hj, if_neg (fun q => hj ⟨by have := q.2.1; omega, by have := q.2.2; omega⟩)]
  rw [e1] at Y' step
  have hla : a < H.size := (Array.getElem?_eq_some_iff.mp hc1).1
  have hheap : ((T.setVm vm').setCell a (arrV (dA κ1) N1 (ev (cpM M a0 a sp dp ln) a .int))).heap = H.setIfInBounds a (arrV (dA κ1) N1 (ev (cpM M a0 a sp dp ln) a .int)) := by rw [← hT]; rfl
  have oq : ∀ q : Nat, q ≠ a → (H.setIfInBounds a (arrV (dA κ1) N1 (ev (cpM M a0 a sp dp ln) a .int)))[q]? = H[q]? := fun q hq => by simp [Array.getElem?_setIfInBounds, Ne.symm hq]
  have hAa : A a := (X.2.2.1 a κ1 τ1 N1 hk1).elim (fun h => hA0 a κ1 τ1 N1 h hown1) id
  have hat : mm_at D dA (cpM M a0 a sp dp ln) a κ1 N1 (H.setIfInBounds a (arrV (dA κ1) N1 (ev (cpM M a0 a sp dp ln) a .int))) := by
    unfold mm_at
    rw [ha1]
    simp [Array.getElem?_setIfInBounds, hla]
  have hgi : ∀ b g, b ≠ a → gi (cpM M a0 a sp dp ln) b g = gi M b g := fun b g hb' => by rw [gi_cpM, if_neg (fun q => hb' q.1)]
  have hFr : Fr own M0 (cpM M a0 a sp dp ln) := fun b κ' τ' N' q => by
    obtain ⟨f1, f2⟩ := X.2.1 b κ' τ' N' q
    refine ⟨f1, fun o g => ⟨?_, (f2 o g).2⟩⟩
    by_cases hb' : b = a
    · subst hb'
      rw [f1] at hk1
      cases hk1
      rw [hown1] at o
      cases o
    · rw [hgi b g hb']
      exact (f2 o g).1
  have hX : ∀ locs' : List Loc, (∀ q ∈ locs', q ∈ locs ∨ q.base = a) → Mx own M0 (cpM M a0 a sp dp ln) D dA A s (H.setIfInBounds a (arrV (dA κ1) N1 (ev (cpM M a0 a sp dp ln) a .int))) locs' := by
    intro locs' hlocs
    obtain ⟨x1, x2, x3, x4⟩ := X
    refine ⟨fun b κ' τ' N' hb' => ?_, hFr, fun q κ' τ' N' hq' => x3 q κ' τ' N' hq', by simp; exact x4.1, fun q g1 g2 => ?_, fun q hq => ?_⟩
    · by_cases e9 : b = a
      · subst e9
        have hb2 : kd M b = some (κ', τ', N') := hb'
        rw [hk1] at hb2
        cases hb2
        exact hat
      · exact ((x1 b κ' τ' N' hb').kept (oq b e9)).same (fun f => hgi b f e9) (fun _ => rfl)
    · rw [oq q (fun e9 => g2 (by rw [e9]; exact hAa))]
      exact x4.2.1 q g1 g2
    · rcases hlocs q hq with h | h
      · exact x4.2.2 q h
      · rw [h]; exact hAa
  obtain ⟨t, b1, b2⟩ := kk p l e R s m args below meth c D dA pa A mc ms Z _ _ cells slots ls C (hX _ (fun q hq => by
      rcases List.mem_append.mp hq with h | h
      · exact Or.inl h
      · obtain ⟨z, -, hz⟩ := List.mem_map.mp h
        exact Or.inr (by rw [← hz]))) hl h1 h2 _ hheap Y'
  exact ⟨t, step t b1, b2⟩
end Rules
end
