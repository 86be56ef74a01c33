section
-- ===== PART A: goes FIRST, ahead of the names: the tables' words, and 'selects' of the private methods out of them =====
/-- a private method of a class that the tables say can be made, by its rows of tables_1 -/
def lw_okq (q : MethodName × Nat) : Prop := (q.1.cls ≠ "java/lang/invoke/MethodHandle" ∧ q.1.cls ≠ "java/lang/invoke/VarHandle") ∧ Cond.instantiable q.1.cls q.2 ∈ tables_1 ∧ Cond.privateMethod q.1 ∈ tables_1 ∧ Cond.instanceMethod q.1 ∈ tables_1
theorem lw_p0 : lw_okq (⟨"TrafficMatrix", "pairError", "(II)I"⟩, 5) := ⟨⟨by decide +kernel, by decide +kernel⟩, List.mem_of_getElem? (i := 11) (by decide +kernel), List.mem_of_getElem? (i := 182) (by decide +kernel), List.mem_of_getElem? (i := 183) (by decide +kernel)⟩
theorem lw_p1 : lw_okq (⟨"TrafficMatrix$Network", "findRoutes", "()V"⟩, 8) := ⟨⟨by decide +kernel, by decide +kernel⟩, List.mem_of_getElem? (i := 19) (by decide +kernel), List.mem_of_getElem? (i := 197) (by decide +kernel), List.mem_of_getElem? (i := 198) (by decide +kernel)⟩
theorem lw_p2 : lw_okq (⟨"TrafficMatrix$Network", "findCostsTo", "(I)V"⟩, 8) := ⟨⟨by decide +kernel, by decide +kernel⟩, List.mem_of_getElem? (i := 19) (by decide +kernel), List.mem_of_getElem? (i := 201) (by decide +kernel), List.mem_of_getElem? (i := 202) (by decide +kernel)⟩
theorem lw_p3 : lw_okq (⟨"TrafficMatrix$Network", "costOver", "(I)I"⟩, 8) := ⟨⟨by decide +kernel, by decide +kernel⟩, List.mem_of_getElem? (i := 19) (by decide +kernel), List.mem_of_getElem? (i := 206) (by decide +kernel), List.mem_of_getElem? (i := 207) (by decide +kernel)⟩
theorem lw_p4 : lw_okq (⟨"TrafficMatrix$Network", "findRoute", "(II)V"⟩, 8) := ⟨⟨by decide +kernel, by decide +kernel⟩, List.mem_of_getElem? (i := 19) (by decide +kernel), List.mem_of_getElem? (i := 213) (by decide +kernel), List.mem_of_getElem? (i := 214) (by decide +kernel)⟩
theorem lw_p5 : lw_okq (⟨"TrafficMatrix$Network", "cheapestFrom", "(I)I"⟩, 8) := ⟨⟨by decide +kernel, by decide +kernel⟩, List.mem_of_getElem? (i := 19) (by decide +kernel), List.mem_of_getElem? (i := 220) (by decide +kernel), List.mem_of_getElem? (i := 221) (by decide +kernel)⟩
theorem lw_p6 : lw_okq (⟨"TrafficMatrix", "routeError", "(II)I"⟩, 5) := ⟨⟨by decide +kernel, by decide +kernel⟩, List.mem_of_getElem? (i := 11) (by decide +kernel), List.mem_of_getElem? (i := 240) (by decide +kernel), List.mem_of_getElem? (i := 241) (by decide +kernel)⟩
theorem lw_p7 : lw_okq (⟨"TrafficMatrix$Equations", "findKnown", "(LTrafficMatrix$Network;LTrafficMatrix$Measurements;)V"⟩, 8) := ⟨⟨by decide +kernel, by decide +kernel⟩, List.mem_of_getElem? (i := 87) (by decide +kernel), List.mem_of_getElem? (i := 320) (by decide +kernel), List.mem_of_getElem? (i := 321) (by decide +kernel)⟩
theorem lw_p8 : lw_okq (⟨"TrafficMatrix$Equations", "fillRow", "(ILTrafficMatrix$Network;LTrafficMatrix$Measurements;)V"⟩, 8) := ⟨⟨by decide +kernel, by decide +kernel⟩, List.mem_of_getElem? (i := 87) (by decide +kernel), List.mem_of_getElem? (i := 326) (by decide +kernel), List.mem_of_getElem? (i := 327) (by decide +kernel)⟩
theorem lw_p9 : lw_okq (⟨"TrafficMatrix$Equations", "eliminate", "()V"⟩, 8) := ⟨⟨by decide +kernel, by decide +kernel⟩, List.mem_of_getElem? (i := 87) (by decide +kernel), List.mem_of_getElem? (i := 332) (by decide +kernel), List.mem_of_getElem? (i := 333) (by decide +kernel)⟩
theorem lw_p10 : lw_okq (⟨"TrafficMatrix$Equations", "findPivotRow", "(I)I"⟩, 8) := ⟨⟨by decide +kernel, by decide +kernel⟩, List.mem_of_getElem? (i := 87) (by decide +kernel), List.mem_of_getElem? (i := 337) (by decide +kernel), List.mem_of_getElem? (i := 338) (by decide +kernel)⟩
theorem lw_p11 : lw_okq (⟨"TrafficMatrix$Equations", "clearColumn", "(II)V"⟩, 8) := ⟨⟨by decide +kernel, by decide +kernel⟩, List.mem_of_getElem? (i := 87) (by decide +kernel), List.mem_of_getElem? (i := 341) (by decide +kernel), List.mem_of_getElem? (i := 342) (by decide +kernel)⟩
theorem lw_p12 : lw_okq (⟨"TrafficMatrix$Equations", "combine", "([J[JI)V"⟩, 8) := ⟨⟨by decide +kernel, by decide +kernel⟩, List.mem_of_getElem? (i := 87) (by decide +kernel), List.mem_of_getElem? (i := 345) (by decide +kernel), List.mem_of_getElem? (i := 346) (by decide +kernel)⟩
theorem lw_p13 : lw_okq (⟨"TrafficMatrix$Equations", "firstFreePart", "(I)I"⟩, 8) := ⟨⟨by decide +kernel, by decide +kernel⟩, List.mem_of_getElem? (i := 87) (by decide +kernel), List.mem_of_getElem? (i := 368) (by decide +kernel), List.mem_of_getElem? (i := 369) (by decide +kernel)⟩
theorem lw_p14 : lw_okq (⟨"TrafficMatrix$Equations", "freePart", "(II)J"⟩, 8) := ⟨⟨by decide +kernel, by decide +kernel⟩, List.mem_of_getElem? (i := 87) (by decide +kernel), List.mem_of_getElem? (i := 372) (by decide +kernel), List.mem_of_getElem? (i := 373) (by decide +kernel)⟩
theorem lw_p15 : lw_okq (⟨"TrafficMatrix", "findIdentified", "(II)Z"⟩, 5) := ⟨⟨by decide +kernel, by decide +kernel⟩, List.mem_of_getElem? (i := 11) (by decide +kernel), List.mem_of_getElem? (i := 384) (by decide +kernel), List.mem_of_getElem? (i := 385) (by decide +kernel)⟩
def lw_privs_1 : List (MethodName × Nat) := [(⟨"TrafficMatrix", "pairError", "(II)I"⟩, 5), (⟨"TrafficMatrix$Network", "findRoutes", "()V"⟩, 8), (⟨"TrafficMatrix$Network", "findCostsTo", "(I)V"⟩, 8), (⟨"TrafficMatrix$Network", "costOver", "(I)I"⟩, 8), (⟨"TrafficMatrix$Network", "findRoute", "(II)V"⟩, 8), (⟨"TrafficMatrix$Network", "cheapestFrom", "(I)I"⟩, 8), (⟨"TrafficMatrix", "routeError", "(II)I"⟩, 5), (⟨"TrafficMatrix$Equations", "findKnown", "(LTrafficMatrix$Network;LTrafficMatrix$Measurements;)V"⟩, 8), (⟨"TrafficMatrix$Equations", "fillRow", "(ILTrafficMatrix$Network;LTrafficMatrix$Measurements;)V"⟩, 8), (⟨"TrafficMatrix$Equations", "eliminate", "()V"⟩, 8), (⟨"TrafficMatrix$Equations", "findPivotRow", "(I)I"⟩, 8), (⟨"TrafficMatrix$Equations", "clearColumn", "(II)V"⟩, 8), (⟨"TrafficMatrix$Equations", "combine", "([J[JI)V"⟩, 8), (⟨"TrafficMatrix$Equations", "firstFreePart", "(I)I"⟩, 8), (⟨"TrafficMatrix$Equations", "freePart", "(II)J"⟩, 8), (⟨"TrafficMatrix", "findIdentified", "(II)Z"⟩, 5)]
theorem lw_r1 : ∀ q ∈ lw_privs_1, lw_okq q := List.forall_mem_cons.mpr ⟨lw_p0, List.forall_mem_cons.mpr ⟨lw_p1, List.forall_mem_cons.mpr ⟨lw_p2, List.forall_mem_cons.mpr ⟨lw_p3, List.forall_mem_cons.mpr ⟨lw_p4, List.forall_mem_cons.mpr ⟨lw_p5, List.forall_mem_cons.mpr ⟨lw_p6, List.forall_mem_cons.mpr ⟨lw_p7, List.forall_mem_cons.mpr ⟨lw_p8, List.forall_mem_cons.mpr ⟨lw_p9, List.forall_mem_cons.mpr ⟨lw_p10, List.forall_mem_cons.mpr ⟨lw_p11, List.forall_mem_cons.mpr ⟨lw_p12, List.forall_mem_cons.mpr ⟨lw_p13, List.forall_mem_cons.mpr ⟨lw_p14, List.forall_mem_cons.mpr ⟨lw_p15, fun _ h => absurd h List.not_mem_nil⟩⟩⟩⟩⟩⟩⟩⟩⟩⟩⟩⟩⟩⟩⟩⟩
theorem lw_p16 : lw_okq (⟨"TrafficMatrix$Equations", "divisorOfPivotAnd", "(J)J"⟩, 8) := ⟨⟨by decide +kernel, by decide +kernel⟩, List.mem_of_getElem? (i := 87) (by decide +kernel), List.mem_of_getElem? (i := 393) (by decide +kernel), List.mem_of_getElem? (i := 394) (by decide +kernel)⟩
theorem lw_p17 : lw_okq (⟨"TrafficMatrix", "countWith", "(I)I"⟩, 5) := ⟨⟨by decide +kernel, by decide +kernel⟩, List.mem_of_getElem? (i := 11) (by decide +kernel), List.mem_of_getElem? (i := 412) (by decide +kernel), List.mem_of_getElem? (i := 413) (by decide +kernel)⟩
theorem lw_p18 : lw_okq (⟨"TrafficMatrix$Estimates", "fitLine", "(III)V"⟩, 2) := ⟨⟨by decide +kernel, by decide +kernel⟩, List.mem_of_getElem? (i := 124) (by decide +kernel), List.mem_of_getElem? (i := 459) (by decide +kernel), List.mem_of_getElem? (i := 460) (by decide +kernel)⟩
theorem lw_p19 : lw_okq (⟨"TrafficMatrix$Estimates", "fitLink", "(LTrafficMatrix$Network;II)V"⟩, 2) := ⟨⟨by decide +kernel, by decide +kernel⟩, List.mem_of_getElem? (i := 124) (by decide +kernel), List.mem_of_getElem? (i := 475) (by decide +kernel), List.mem_of_getElem? (i := 476) (by decide +kernel)⟩
theorem lw_p20 : lw_okq (⟨"TrafficMatrixModel", "refused", "(II)I"⟩, 20) := ⟨⟨by decide +kernel, by decide +kernel⟩, List.mem_of_getElem? (i := 499) (by decide +kernel), List.mem_of_getElem? (i := 577) (by decide +kernel), List.mem_of_getElem? (i := 578) (by decide +kernel)⟩
theorem lw_p21 : lw_okq (⟨"TrafficMatrixModel", "isNode", "(I)Z"⟩, 20) := ⟨⟨by decide +kernel, by decide +kernel⟩, List.mem_of_getElem? (i := 499) (by decide +kernel), List.mem_of_getElem? (i := 581) (by decide +kernel), List.mem_of_getElem? (i := 582) (by decide +kernel)⟩
theorem lw_p22 : lw_okq (⟨"TrafficMatrixModel", "isLink", "(I)Z"⟩, 20) := ⟨⟨by decide +kernel, by decide +kernel⟩, List.mem_of_getElem? (i := 499) (by decide +kernel), List.mem_of_getElem? (i := 589) (by decide +kernel), List.mem_of_getElem? (i := 590) (by decide +kernel)⟩
theorem lw_p23 : lw_okq (⟨"TrafficMatrixModel", "refusedRoute", "(II)I"⟩, 20) := ⟨⟨by decide +kernel, by decide +kernel⟩, List.mem_of_getElem? (i := 499) (by decide +kernel), List.mem_of_getElem? (i := 597) (by decide +kernel), List.mem_of_getElem? (i := 598) (by decide +kernel)⟩
theorem lw_p24 : lw_okq (⟨"TrafficMatrixModel", "findRoutes", "()V"⟩, 20) := ⟨⟨by decide +kernel, by decide +kernel⟩, List.mem_of_getElem? (i := 499) (by decide +kernel), List.mem_of_getElem? (i := 601) (by decide +kernel), List.mem_of_getElem? (i := 602) (by decide +kernel)⟩
theorem lw_p25 : lw_okq (⟨"TrafficMatrixModel", "costOf", "(I)I"⟩, 20) := ⟨⟨by decide +kernel, by decide +kernel⟩, List.mem_of_getElem? (i := 499) (by decide +kernel), List.mem_of_getElem? (i := 606) (by decide +kernel), List.mem_of_getElem? (i := 607) (by decide +kernel)⟩
theorem lw_p26 : lw_okq (⟨"TrafficMatrixModel", "isPair", "(I)Z"⟩, 20) := ⟨⟨by decide +kernel, by decide +kernel⟩, List.mem_of_getElem? (i := 499) (by decide +kernel), List.mem_of_getElem? (i := 610) (by decide +kernel), List.mem_of_getElem? (i := 611) (by decide +kernel)⟩
theorem lw_p27 : lw_okq (⟨"TrafficMatrixModel", "routeBits", "(I)I"⟩, 20) := ⟨⟨by decide +kernel, by decide +kernel⟩, List.mem_of_getElem? (i := 499) (by decide +kernel), List.mem_of_getElem? (i := 614) (by decide +kernel), List.mem_of_getElem? (i := 615) (by decide +kernel)⟩
theorem lw_p28 : lw_okq (⟨"TrafficMatrixModel", "nextLink", "(II)I"⟩, 20) := ⟨⟨by decide +kernel, by decide +kernel⟩, List.mem_of_getElem? (i := 499) (by decide +kernel), List.mem_of_getElem? (i := 618) (by decide +kernel), List.mem_of_getElem? (i := 619) (by decide +kernel)⟩
theorem lw_p29 : lw_okq (⟨"TrafficMatrixModel", "hasRoute", "(I)Z"⟩, 20) := ⟨⟨by decide +kernel, by decide +kernel⟩, List.mem_of_getElem? (i := 499) (by decide +kernel), List.mem_of_getElem? (i := 622) (by decide +kernel), List.mem_of_getElem? (i := 623) (by decide +kernel)⟩
theorem lw_p30 : lw_okq (⟨"TrafficMatrixModel", "uses", "(II)Z"⟩, 20) := ⟨⟨by decide +kernel, by decide +kernel⟩, List.mem_of_getElem? (i := 499) (by decide +kernel), List.mem_of_getElem? (i := 634) (by decide +kernel), List.mem_of_getElem? (i := 635) (by decide +kernel)⟩
theorem lw_p31 : lw_okq (⟨"TrafficMatrixModel", "carried", "(I)I"⟩, 20) := ⟨⟨by decide +kernel, by decide +kernel⟩, List.mem_of_getElem? (i := 499) (by decide +kernel), List.mem_of_getElem? (i := 646) (by decide +kernel), List.mem_of_getElem? (i := 647) (by decide +kernel)⟩
def lw_privs_2 : List (MethodName × Nat) := [(⟨"TrafficMatrix$Equations", "divisorOfPivotAnd", "(J)J"⟩, 8), (⟨"TrafficMatrix", "countWith", "(I)I"⟩, 5), (⟨"TrafficMatrix$Estimates", "fitLine", "(III)V"⟩, 2), (⟨"TrafficMatrix$Estimates", "fitLink", "(LTrafficMatrix$Network;II)V"⟩, 2), (⟨"TrafficMatrixModel", "refused", "(II)I"⟩, 20), (⟨"TrafficMatrixModel", "isNode", "(I)Z"⟩, 20), (⟨"TrafficMatrixModel", "isLink", "(I)Z"⟩, 20), (⟨"TrafficMatrixModel", "refusedRoute", "(II)I"⟩, 20), (⟨"TrafficMatrixModel", "findRoutes", "()V"⟩, 20), (⟨"TrafficMatrixModel", "costOf", "(I)I"⟩, 20), (⟨"TrafficMatrixModel", "isPair", "(I)Z"⟩, 20), (⟨"TrafficMatrixModel", "routeBits", "(I)I"⟩, 20), (⟨"TrafficMatrixModel", "nextLink", "(II)I"⟩, 20), (⟨"TrafficMatrixModel", "hasRoute", "(I)Z"⟩, 20), (⟨"TrafficMatrixModel", "uses", "(II)Z"⟩, 20), (⟨"TrafficMatrixModel", "carried", "(I)I"⟩, 20)]
theorem lw_r2 : ∀ q ∈ lw_privs_2, lw_okq q := List.forall_mem_cons.mpr ⟨lw_p16, List.forall_mem_cons.mpr ⟨lw_p17, List.forall_mem_cons.mpr ⟨lw_p18, List.forall_mem_cons.mpr ⟨lw_p19, List.forall_mem_cons.mpr ⟨lw_p20, List.forall_mem_cons.mpr ⟨lw_p21, List.forall_mem_cons.mpr ⟨lw_p22, List.forall_mem_cons.mpr ⟨lw_p23, List.forall_mem_cons.mpr ⟨lw_p24, List.forall_mem_cons.mpr ⟨lw_p25, List.forall_mem_cons.mpr ⟨lw_p26, List.forall_mem_cons.mpr ⟨lw_p27, List.forall_mem_cons.mpr ⟨lw_p28, List.forall_mem_cons.mpr ⟨lw_p29, List.forall_mem_cons.mpr ⟨lw_p30, List.forall_mem_cons.mpr ⟨lw_p31, fun _ h => absurd h List.not_mem_nil⟩⟩⟩⟩⟩⟩⟩⟩⟩⟩⟩⟩⟩⟩⟩⟩
theorem lw_p32 : lw_okq (⟨"TrafficMatrixModel", "reduces", "(I)V"⟩, 20) := ⟨⟨by decide +kernel, by decide +kernel⟩, List.mem_of_getElem? (i := 499) (by decide +kernel), List.mem_of_getElem? (i := 683) (by decide +kernel), List.mem_of_getElem? (i := 684) (by decide +kernel)⟩
theorem lw_p33 : lw_okq (⟨"TrafficMatrixModel", "laysOut", "(I)V"⟩, 20) := ⟨⟨by decide +kernel, by decide +kernel⟩, List.mem_of_getElem? (i := 499) (by decide +kernel), List.mem_of_getElem? (i := 687) (by decide +kernel), List.mem_of_getElem? (i := 688) (by decide +kernel)⟩
theorem lw_p34 : lw_okq (⟨"TrafficMatrixModel", "exchanges", "(II)V"⟩, 20) := ⟨⟨by decide +kernel, by decide +kernel⟩, List.mem_of_getElem? (i := 499) (by decide +kernel), List.mem_of_getElem? (i := 691) (by decide +kernel), List.mem_of_getElem? (i := 692) (by decide +kernel)⟩
theorem lw_p35 : lw_okq (⟨"TrafficMatrixModel", "clears", "(III)V"⟩, 20) := ⟨⟨by decide +kernel, by decide +kernel⟩, List.mem_of_getElem? (i := 499) (by decide +kernel), List.mem_of_getElem? (i := 695) (by decide +kernel), List.mem_of_getElem? (i := 696) (by decide +kernel)⟩
theorem lw_p36 : lw_okq (⟨"TrafficMatrixModel", "shortens", "(I)V"⟩, 20) := ⟨⟨by decide +kernel, by decide +kernel⟩, List.mem_of_getElem? (i := 499) (by decide +kernel), List.mem_of_getElem? (i := 699) (by decide +kernel), List.mem_of_getElem? (i := 700) (by decide +kernel)⟩
theorem lw_p37 : lw_okq (⟨"TrafficMatrixModel", "agrees", "()Z"⟩, 20) := ⟨⟨by decide +kernel, by decide +kernel⟩, List.mem_of_getElem? (i := 499) (by decide +kernel), List.mem_of_getElem? (i := 710) (by decide +kernel), List.mem_of_getElem? (i := 711) (by decide +kernel)⟩
theorem lw_p38 : lw_okq (⟨"TrafficMatrixModel", "isSure", "(II)Z"⟩, 20) := ⟨⟨by decide +kernel, by decide +kernel⟩, List.mem_of_getElem? (i := 499) (by decide +kernel), List.mem_of_getElem? (i := 718) (by decide +kernel), List.mem_of_getElem? (i := 719) (by decide +kernel)⟩
theorem lw_p39 : lw_okq (⟨"TrafficMatrixModel", "sureCount", "(I)I"⟩, 20) := ⟨⟨by decide +kernel, by decide +kernel⟩, List.mem_of_getElem? (i := 499) (by decide +kernel), List.mem_of_getElem? (i := 726) (by decide +kernel), List.mem_of_getElem? (i := 727) (by decide +kernel)⟩
theorem lw_p40 : lw_okq (⟨"TrafficMatrixModel", "identified", "(III)J"⟩, 20) := ⟨⟨by decide +kernel, by decide +kernel⟩, List.mem_of_getElem? (i := 499) (by decide +kernel), List.mem_of_getElem? (i := 734) (by decide +kernel), List.mem_of_getElem? (i := 735) (by decide +kernel)⟩
theorem lw_p41 : lw_okq (⟨"TrafficMatrixModel", "keeps", "()V"⟩, 20) := ⟨⟨by decide +kernel, by decide +kernel⟩, List.mem_of_getElem? (i := 499) (by decide +kernel), List.mem_of_getElem? (i := 757) (by decide +kernel), List.mem_of_getElem? (i := 758) (by decide +kernel)⟩
theorem lw_p42 : lw_okq (⟨"TrafficMatrixModel", "fits", "(III)V"⟩, 20) := ⟨⟨by decide +kernel, by decide +kernel⟩, List.mem_of_getElem? (i := 499) (by decide +kernel), List.mem_of_getElem? (i := 761) (by decide +kernel), List.mem_of_getElem? (i := 762) (by decide +kernel)⟩
theorem lw_p43 : lw_okq (⟨"TrafficMatrixModel", "sumOf", "(II)J"⟩, 20) := ⟨⟨by decide +kernel, by decide +kernel⟩, List.mem_of_getElem? (i := 499) (by decide +kernel), List.mem_of_getElem? (i := 765) (by decide +kernel), List.mem_of_getElem? (i := 766) (by decide +kernel)⟩
theorem lw_p44 : lw_okq (⟨"TrafficMatrixModel", "isOf", "(III)Z"⟩, 20) := ⟨⟨by decide +kernel, by decide +kernel⟩, List.mem_of_getElem? (i := 499) (by decide +kernel), List.mem_of_getElem? (i := 769) (by decide +kernel), List.mem_of_getElem? (i := 770) (by decide +kernel)⟩
theorem lw_p45 : lw_okq (⟨"TrafficMatrixModel", "changed", "()I"⟩, 20) := ⟨⟨by decide +kernel, by decide +kernel⟩, List.mem_of_getElem? (i := 499) (by decide +kernel), List.mem_of_getElem? (i := 773) (by decide +kernel), List.mem_of_getElem? (i := 774) (by decide +kernel)⟩
def lw_privs_3 : List (MethodName × Nat) := [(⟨"TrafficMatrixModel", "reduces", "(I)V"⟩, 20), (⟨"TrafficMatrixModel", "laysOut", "(I)V"⟩, 20), (⟨"TrafficMatrixModel", "exchanges", "(II)V"⟩, 20), (⟨"TrafficMatrixModel", "clears", "(III)V"⟩, 20), (⟨"TrafficMatrixModel", "shortens", "(I)V"⟩, 20), (⟨"TrafficMatrixModel", "agrees", "()Z"⟩, 20), (⟨"TrafficMatrixModel", "isSure", "(II)Z"⟩, 20), (⟨"TrafficMatrixModel", "sureCount", "(I)I"⟩, 20), (⟨"TrafficMatrixModel", "identified", "(III)J"⟩, 20), (⟨"TrafficMatrixModel", "keeps", "()V"⟩, 20), (⟨"TrafficMatrixModel", "fits", "(III)V"⟩, 20), (⟨"TrafficMatrixModel", "sumOf", "(II)J"⟩, 20), (⟨"TrafficMatrixModel", "isOf", "(III)Z"⟩, 20), (⟨"TrafficMatrixModel", "changed", "()I"⟩, 20)]
theorem lw_r3 : ∀ q ∈ lw_privs_3, lw_okq q := List.forall_mem_cons.mpr ⟨lw_p32, List.forall_mem_cons.mpr ⟨lw_p33, List.forall_mem_cons.mpr ⟨lw_p34, List.forall_mem_cons.mpr ⟨lw_p35, List.forall_mem_cons.mpr ⟨lw_p36, List.forall_mem_cons.mpr ⟨lw_p37, List.forall_mem_cons.mpr ⟨lw_p38, List.forall_mem_cons.mpr ⟨lw_p39, List.forall_mem_cons.mpr ⟨lw_p40, List.forall_mem_cons.mpr ⟨lw_p41, List.forall_mem_cons.mpr ⟨lw_p42, List.forall_mem_cons.mpr ⟨lw_p43, List.forall_mem_cons.mpr ⟨lw_p44, List.forall_mem_cons.mpr ⟨lw_p45, fun _ h => absurd h List.not_mem_nil⟩⟩⟩⟩⟩⟩⟩⟩⟩⟩⟩⟩⟩⟩
def lw_privs : List (MethodName × Nat) := lw_privs_1 ++ (lw_privs_2 ++ (lw_privs_3))
def lw_tbl : List Cond := k2_sels lw_privs ++ tables_1
theorem lw_privs_ok : ∀ q ∈ lw_privs, lw_okq q := by
  show ∀ q ∈ lw_privs_1 ++ (lw_privs_2 ++ (lw_privs_3)), lw_okq q
  exact List.forall_mem_append.mpr ⟨lw_r1, List.forall_mem_append.mpr ⟨lw_r2, lw_r3⟩⟩

/-! ===== BEGIN words of one list among another's, by their places ===== -/
theorem goodIn_r {big : List Cond} (ws : List Cond) (ps : List Nat) (hp : ws = ps.filterMap (fun i => big[i]?)) (h : ws.all goodWord = true) : GoodIn big ws := by
  intro w hw
  have h1 := List.all_eq_true.mp h w hw
  rw [hp] at hw
  obtain ⟨i, -, hi⟩ := List.mem_filterMap.mp hw
  have hm : w ∈ big := by first | exact List.mem_of_getElem? hi | exact List.getElem?_mem hi
  exact ⟨hm, good_of_word h1⟩
theorem goodIn_app {big a b : List Cond} (ha : GoodIn big a) (hb : GoodIn big b) : GoodIn big (a ++ b) := fun w h => (List.mem_append.mp h).elim (ha w) (hb w)
theorem goodIn_ca {big a b : List Cond} {c : Cond} (ha : GoodIn big (c :: a)) (hb : GoodIn big b) : GoodIn big (c :: (a ++ b)) := fun w h => (List.mem_cons.mp h).elim (fun e => ha w (List.mem_cons.mpr (Or.inl e))) (fun h => (List.mem_append.mp h).elim (fun h => ha w (List.mem_cons.mpr (Or.inr h))) (hb w))
theorem goodIn_sub {big ws : List Cond} (hm : ∀ w ∈ ws, w ∈ big) (h : ws.all goodWord = true) : GoodIn big ws := fun w hw => ⟨hm w hw, good_of_word (List.all_eq_true.mp h w hw)⟩
/-! ===== END ===== -/


/-! ===== BEGIN printed: names, fields, word lists, decode rows ===== -/
def RX0 : String := "TrafficMatrix$Equations"
def TX0 : u_T := fun k => match k with
  | 0 => ("TrafficMatrix$Equations", "rowCount", "I", false)
  | 1 => ("TrafficMatrix$Equations", "knownCount", "I", false)
  | 2 => ("TrafficMatrix$Equations", "pivotCount", "I", false)
  | 3 => ("TrafficMatrix$Equations", "pivot", "J", false)
  | 4 => ("TrafficMatrix$Equations", "rows", "[[J", true)
  | 5 => ("TrafficMatrix$Equations", "rowOfPivot", "[I", true)
  | 6 => ("TrafficMatrix$Equations", "pivotOfRow", "[I", true)
  | _ => ("TrafficMatrix$Equations", "known", "[Z", true)
def tyX0 : Nat → FieldType := fun k => match k with
  | 0 => .int
  | 1 => .int
  | 2 => .int
  | 3 => .long
  | 4 => .array (.array .long)
  | 5 => .array .int
  | 6 => .array .int
  | _ => .array .boolean
abbrev wsX00 : List Cond := u_ws RX0 TX0 8
theorem nmX0 : ∀ a, a < 8 → ∀ b, b < 8 → a ≠ b → (TX0 a).2.1 ≠ (TX0 b).2.1 := by decide +kernel
theorem tyX0_ok : ∀ k, k < 8 → parseFieldDescriptor (TX0 k).2.2.1 = some (tyX0 k) := by decide +kernel
abbrev cX0_init : ByteArray := prog_2_method_1_code
def yX0_init : MethodName := ⟨RX0, "<init>", "()V"⟩
abbrev cX0_solve : ByteArray := prog_2_method_2_code
def yX0_solve : MethodName := ⟨RX0, "solve", "(LTrafficMatrix$Network;LTrafficMatrix$Measurements;)V"⟩
abbrev cX0_findKnown : ByteArray := prog_2_method_3_code
def yX0_findKnown : MethodName := ⟨RX0, "findKnown", "(LTrafficMatrix$Network;LTrafficMatrix$Measurements;)V"⟩
abbrev cX0_fillRow : ByteArray := prog_2_method_4_code
def yX0_fillRow : MethodName := ⟨RX0, "fillRow", "(ILTrafficMatrix$Network;LTrafficMatrix$Measurements;)V"⟩
abbrev cX0_eliminate : ByteArray := prog_2_method_5_code
def yX0_eliminate : MethodName := ⟨RX0, "eliminate", "()V"⟩
abbrev cX0_findPivotRow : ByteArray := prog_2_method_6_code
def yX0_findPivotRow : MethodName := ⟨RX0, "findPivotRow", "(I)I"⟩
abbrev cX0_clearColumn : ByteArray := prog_2_method_7_code
def yX0_clearColumn : MethodName := ⟨RX0, "clearColumn", "(II)V"⟩
abbrev cX0_combine : ByteArray := prog_2_method_8_code
def yX0_combine : MethodName := ⟨RX0, "combine", "([J[JI)V"⟩
abbrev cX0_quotient : ByteArray := prog_2_method_9_code
def yX0_quotient : MethodName := ⟨RX0, "quotient", "(JJ)J"⟩
abbrev cX0_haveSolution : ByteArray := prog_2_method_10_code
def yX0_haveSolution : MethodName := ⟨RX0, "haveSolution", "()Z"⟩
abbrev cX0_determine : ByteArray := prog_2_method_11_code
def yX0_determine : MethodName := ⟨RX0, "determine", "(I)Z"⟩
abbrev cX0_determineWith : ByteArray := prog_2_method_12_code
def yX0_determineWith : MethodName := ⟨RX0, "determineWith", "(II)Z"⟩
abbrev cX0_firstFreePart : ByteArray := prog_2_method_13_code
def yX0_firstFreePart : MethodName := ⟨RX0, "firstFreePart", "(I)I"⟩
abbrev cX0_freePart : ByteArray := prog_2_method_14_code
def yX0_freePart : MethodName := ⟨RX0, "freePart", "(II)J"⟩
abbrev cX0_numeratorOf : ByteArray := prog_2_method_15_code
def yX0_numeratorOf : MethodName := ⟨RX0, "numeratorOf", "(ILTrafficMatrix$Measurements;)J"⟩
abbrev cX0_denominatorOf : ByteArray := prog_2_method_16_code
def yX0_denominatorOf : MethodName := ⟨RX0, "denominatorOf", "(I)J"⟩
abbrev cX0_divisorOfPivotAnd : ByteArray := prog_2_method_17_code
def yX0_divisorOfPivotAnd : MethodName := ⟨RX0, "divisorOfPivotAnd", "(J)J"⟩
def RX1 : String := "TrafficMatrix$Estimates"
def TX1 : u_T := fun k => match k with
  | 0 => ("TrafficMatrix$Estimates", "values", "[J", true)
  | _ => ("TrafficMatrix$Estimates", "remembered", "[J", true)
def tyX1 : Nat → FieldType := fun k => match k with
  | 0 => .array .long
  | _ => .array .long
abbrev wsX10 : List Cond := u_ws RX1 TX1 2
theorem nmX1 : ∀ a, a < 2 → ∀ b, b < 2 → a ≠ b → (TX1 a).2.1 ≠ (TX1 b).2.1 := by decide +kernel
theorem tyX1_ok : ∀ k, k < 2 → parseFieldDescriptor (TX1 k).2.2.1 = some (tyX1 k) := by decide +kernel
abbrev cX1_init : ByteArray := prog_3_method_1_code
def yX1_init : MethodName := ⟨RX1, "<init>", "()V"⟩
abbrev cX1_startAnew : ByteArray := prog_3_method_2_code
def yX1_startAnew : MethodName := ⟨RX1, "startAnew", "()V"⟩
abbrev cX1_remember : ByteArray := prog_3_method_3_code
def yX1_remember : MethodName := ⟨RX1, "remember", "()V"⟩
abbrev cX1_countChanged : ByteArray := prog_3_method_4_code
def yX1_countChanged : MethodName := ⟨RX1, "countChanged", "()I"⟩
abbrev cX1_takeGravity : ByteArray := prog_3_method_5_code
def yX1_takeGravity : MethodName := ⟨RX1, "takeGravity", "(LTrafficMatrix$Network;LTrafficMatrix$Measurements;)I"⟩
abbrev cX1_fitOnceToTotals : ByteArray := prog_3_method_6_code
def yX1_fitOnceToTotals : MethodName := ⟨RX1, "fitOnceToTotals", "(LTrafficMatrix$Measurements;)V"⟩
abbrev cX1_fitLine : ByteArray := prog_3_method_7_code
def yX1_fitLine : MethodName := ⟨RX1, "fitLine", "(III)V"⟩
abbrev cX1_fitOnceToLinks : ByteArray := prog_3_method_8_code
def yX1_fitOnceToLinks : MethodName := ⟨RX1, "fitOnceToLinks", "(LTrafficMatrix$Network;LTrafficMatrix$Measurements;)V"⟩
abbrev cX1_fitLink : ByteArray := prog_3_method_9_code
def yX1_fitLink : MethodName := ⟨RX1, "fitLink", "(LTrafficMatrix$Network;II)V"⟩
abbrev cX1_sumOnLink : ByteArray := prog_3_method_10_code
def yX1_sumOnLink : MethodName := ⟨RX1, "sumOnLink", "(LTrafficMatrix$Network;I)J"⟩
abbrev cX1_scaled : ByteArray := prog_3_method_11_code
def yX1_scaled : MethodName := ⟨RX1, "scaled", "(JJJ)J"⟩
def RX2 : String := "TrafficMatrix$Measurements"
def TX2 : u_T := fun k => match k with
  | 0 => ("TrafficMatrix$Measurements", "loads", "[I", true)
  | 1 => ("TrafficMatrix$Measurements", "outTotals", "[I", true)
  | 2 => ("TrafficMatrix$Measurements", "inTotals", "[I", true)
  | _ => ("TrafficMatrix$Measurements", "pairValues", "[I", true)
def tyX2 : Nat → FieldType := fun k => match k with
  | 0 => .array .int
  | 1 => .array .int
  | 2 => .array .int
  | _ => .array .int
abbrev wsX20 : List Cond := u_ws RX2 TX2 4
theorem nmX2 : ∀ a, a < 4 → ∀ b, b < 4 → a ≠ b → (TX2 a).2.1 ≠ (TX2 b).2.1 := by decide +kernel
theorem tyX2_ok : ∀ k, k < 4 → parseFieldDescriptor (TX2 k).2.2.1 = some (tyX2 k) := by decide +kernel
abbrev cX2_init : ByteArray := prog_4_method_1_code
def yX2_init : MethodName := ⟨RX2, "<init>", "()V"⟩
abbrev cX2_startAnew : ByteArray := prog_4_method_2_code
def yX2_startAnew : MethodName := ⟨RX2, "startAnew", "()V"⟩
abbrev cX2_hasPair : ByteArray := prog_4_method_3_code
def yX2_hasPair : MethodName := ⟨RX2, "hasPair", "(I)Z"⟩
abbrev cX2_take : ByteArray := prog_4_method_4_code
def yX2_take : MethodName := ⟨RX2, "take", "(LTrafficMatrix$Network;[I)V"⟩
abbrev cX2_sumOfOutTotals : ByteArray := prog_4_method_5_code
def yX2_sumOfOutTotals : MethodName := ⟨RX2, "sumOfOutTotals", "()I"⟩
def RX3 : String := "TrafficMatrix$Network"
def TX3 : u_T := fun k => match k with
  | 0 => ("TrafficMatrix$Network", "nodeCount", "I", false)
  | 1 => ("TrafficMatrix$Network", "linkCount", "I", false)
  | 2 => ("TrafficMatrix$Network", "sources", "[I", true)
  | 3 => ("TrafficMatrix$Network", "targets", "[I", true)
  | 4 => ("TrafficMatrix$Network", "metrics", "[I", true)
  | 5 => ("TrafficMatrix$Network", "routeLengths", "[I", true)
  | 6 => ("TrafficMatrix$Network", "routeLinks", "[[I", true)
  | _ => ("TrafficMatrix$Network", "costs", "[I", true)
def tyX3 : Nat → FieldType := fun k => match k with
  | 0 => .int
  | 1 => .int
  | 2 => .array .int
  | 3 => .array .int
  | 4 => .array .int
  | 5 => .array .int
  | 6 => .array (.array .int)
  | _ => .array .int
abbrev wsX30 : List Cond := u_ws RX3 TX3 8
theorem nmX3 : ∀ a, a < 8 → ∀ b, b < 8 → a ≠ b → (TX3 a).2.1 ≠ (TX3 b).2.1 := by decide +kernel
theorem tyX3_ok : ∀ k, k < 8 → parseFieldDescriptor (TX3 k).2.2.1 = some (tyX3 k) := by decide +kernel
abbrev cX3_init : ByteArray := prog_5_method_1_code
def yX3_init : MethodName := ⟨RX3, "<init>", "()V"⟩
abbrev cX3_startAnew : ByteArray := prog_5_method_2_code
def yX3_startAnew : MethodName := ⟨RX3, "startAnew", "(I)V"⟩
abbrev cX3_hasNode : ByteArray := prog_5_method_3_code
def yX3_hasNode : MethodName := ⟨RX3, "hasNode", "(I)Z"⟩
abbrev cX3_hasLink : ByteArray := prog_5_method_4_code
def yX3_hasLink : MethodName := ⟨RX3, "hasLink", "(I)Z"⟩
abbrev cX3_hasRoute : ByteArray := prog_5_method_5_code
def yX3_hasRoute : MethodName := ⟨RX3, "hasRoute", "(I)Z"⟩
abbrev cX3_routeUses : ByteArray := prog_5_method_6_code
def yX3_routeUses : MethodName := ⟨RX3, "routeUses", "(II)Z"⟩
abbrev cX3_loadOf : ByteArray := prog_5_method_7_code
def yX3_loadOf : MethodName := ⟨RX3, "loadOf", "(I[I)I"⟩
abbrev cX3_append : ByteArray := prog_5_method_8_code
def yX3_append : MethodName := ⟨RX3, "append", "(III)I"⟩
abbrev cX3_replaceMetric : ByteArray := prog_5_method_9_code
def yX3_replaceMetric : MethodName := ⟨RX3, "replaceMetric", "(II)I"⟩
abbrev cX3_findRoutes : ByteArray := prog_5_method_10_code
def yX3_findRoutes : MethodName := ⟨RX3, "findRoutes", "()V"⟩
abbrev cX3_findCostsTo : ByteArray := prog_5_method_11_code
def yX3_findCostsTo : MethodName := ⟨RX3, "findCostsTo", "(I)V"⟩
abbrev cX3_costOver : ByteArray := prog_5_method_12_code
def yX3_costOver : MethodName := ⟨RX3, "costOver", "(I)I"⟩
abbrev cX3_findRoute : ByteArray := prog_5_method_13_code
def yX3_findRoute : MethodName := ⟨RX3, "findRoute", "(II)V"⟩
abbrev cX3_cheapestFrom : ByteArray := prog_5_method_14_code
def yX3_cheapestFrom : MethodName := ⟨RX3, "cheapestFrom", "(I)I"⟩
def RX4 : String := "TrafficMatrix"
def TX4 : u_T := fun k => match k with
  | 0 => ("TrafficMatrix", "network", "LTrafficMatrix$Network;", true)
  | 1 => ("TrafficMatrix", "demands", "[I", true)
  | 2 => ("TrafficMatrix", "measurements", "LTrafficMatrix$Measurements;", true)
  | 3 => ("TrafficMatrix", "equations", "LTrafficMatrix$Equations;", true)
  | _ => ("TrafficMatrix", "estimates", "LTrafficMatrix$Estimates;", true)
def tyX4 : Nat → FieldType := fun k => match k with
  | 0 => .object "TrafficMatrix$Network"
  | 1 => .array .int
  | 2 => .object "TrafficMatrix$Measurements"
  | 3 => .object "TrafficMatrix$Equations"
  | _ => .object "TrafficMatrix$Estimates"
abbrev wsX40 : List Cond := u_ws RX4 TX4 5
theorem nmX4 : ∀ a, a < 5 → ∀ b, b < 5 → a ≠ b → (TX4 a).2.1 ≠ (TX4 b).2.1 := by decide +kernel
theorem tyX4_ok : ∀ k, k < 5 → parseFieldDescriptor (TX4 k).2.2.1 = some (tyX4 k) := by decide +kernel
abbrev cX4_init : ByteArray := prog_1_method_1_code
def yX4_init : MethodName := ⟨RX4, "<init>", "()V"⟩
abbrev cX4_reset : ByteArray := prog_1_method_2_code
def yX4_reset : MethodName := ⟨RX4, "reset", "(I)I"⟩
abbrev cX4_addLink : ByteArray := prog_1_method_3_code
def yX4_addLink : MethodName := ⟨RX4, "addLink", "(III)I"⟩
abbrev cX4_setMetric : ByteArray := prog_1_method_4_code
def yX4_setMetric : MethodName := ⟨RX4, "setMetric", "(II)I"⟩
abbrev cX4_routeLength : ByteArray := prog_1_method_5_code
def yX4_routeLength : MethodName := ⟨RX4, "routeLength", "(II)I"⟩
abbrev cX4_routeLink : ByteArray := prog_1_method_6_code
def yX4_routeLink : MethodName := ⟨RX4, "routeLink", "(III)I"⟩
abbrev cX4_setDemand : ByteArray := prog_1_method_7_code
def yX4_setDemand : MethodName := ⟨RX4, "setDemand", "(III)I"⟩
abbrev cX4_carriedLoad : ByteArray := prog_1_method_8_code
def yX4_carriedLoad : MethodName := ⟨RX4, "carriedLoad", "(I)I"⟩
abbrev cX4_measure : ByteArray := prog_1_method_9_code
def yX4_measure : MethodName := ⟨RX4, "measure", "()I"⟩
abbrev cX4_setMeasuredLoad : ByteArray := prog_1_method_10_code
def yX4_setMeasuredLoad : MethodName := ⟨RX4, "setMeasuredLoad", "(II)I"⟩
abbrev cX4_measuredLoad : ByteArray := prog_1_method_11_code
def yX4_measuredLoad : MethodName := ⟨RX4, "measuredLoad", "(I)I"⟩
abbrev cX4_outTotal : ByteArray := prog_1_method_12_code
def yX4_outTotal : MethodName := ⟨RX4, "outTotal", "(I)I"⟩
abbrev cX4_inTotal : ByteArray := prog_1_method_13_code
def yX4_inTotal : MethodName := ⟨RX4, "inTotal", "(I)I"⟩
abbrev cX4_measurePair : ByteArray := prog_1_method_14_code
def yX4_measurePair : MethodName := ⟨RX4, "measurePair", "(II)I"⟩
abbrev cX4_forgetPair : ByteArray := prog_1_method_15_code
def yX4_forgetPair : MethodName := ⟨RX4, "forgetPair", "(II)I"⟩
abbrev cX4_rank : ByteArray := prog_1_method_16_code
def yX4_rank : MethodName := ⟨RX4, "rank", "()I"⟩
abbrev cX4_isConsistent : ByteArray := prog_1_method_17_code
def yX4_isConsistent : MethodName := ⟨RX4, "isConsistent", "()I"⟩
abbrev cX4_isIdentifiable : ByteArray := prog_1_method_18_code
def yX4_isIdentifiable : MethodName := ⟨RX4, "isIdentifiable", "(II)I"⟩
abbrev cX4_identifiableCount : ByteArray := prog_1_method_19_code
def yX4_identifiableCount : MethodName := ⟨RX4, "identifiableCount", "()I"⟩
abbrev cX4_identifiedNumerator : ByteArray := prog_1_method_20_code
def yX4_identifiedNumerator : MethodName := ⟨RX4, "identifiedNumerator", "(II)J"⟩
abbrev cX4_identifiedDenominator : ByteArray := prog_1_method_21_code
def yX4_identifiedDenominator : MethodName := ⟨RX4, "identifiedDenominator", "(II)J"⟩
abbrev cX4_bestPair : ByteArray := prog_1_method_22_code
def yX4_bestPair : MethodName := ⟨RX4, "bestPair", "()I"⟩
abbrev cX4_pairsOnLink : ByteArray := prog_1_method_23_code
def yX4_pairsOnLink : MethodName := ⟨RX4, "pairsOnLink", "(I)I"⟩
abbrev cX4_applyGravity : ByteArray := prog_1_method_24_code
def yX4_applyGravity : MethodName := ⟨RX4, "applyGravity", "()I"⟩
abbrev cX4_fitTotals : ByteArray := prog_1_method_25_code
def yX4_fitTotals : MethodName := ⟨RX4, "fitTotals", "(I)I"⟩
abbrev cX4_fitLinks : ByteArray := prog_1_method_26_code
def yX4_fitLinks : MethodName := ⟨RX4, "fitLinks", "(I)I"⟩
abbrev cX4_estimate : ByteArray := prog_1_method_27_code
def yX4_estimate : MethodName := ⟨RX4, "estimate", "(II)J"⟩
abbrev cX4_residual : ByteArray := prog_1_method_28_code
def yX4_residual : MethodName := ⟨RX4, "residual", "(I)J"⟩
abbrev cX4_totalError : ByteArray := prog_1_method_29_code
def yX4_totalError : MethodName := ⟨RX4, "totalError", "()J"⟩
abbrev cX4_slotOf : ByteArray := prog_1_method_30_code
def yX4_slotOf : MethodName := ⟨RX4, "slotOf", "(II)I"⟩
abbrev cX4_isMetric : ByteArray := prog_1_method_31_code
def yX4_isMetric : MethodName := ⟨RX4, "isMetric", "(I)Z"⟩
abbrev cX4_isTimes : ByteArray := prog_1_method_32_code
def yX4_isTimes : MethodName := ⟨RX4, "isTimes", "(I)Z"⟩
abbrev cX4_pairError : ByteArray := prog_1_method_33_code
def yX4_pairError : MethodName := ⟨RX4, "pairError", "(II)I"⟩
abbrev cX4_routeError : ByteArray := prog_1_method_34_code
def yX4_routeError : MethodName := ⟨RX4, "routeError", "(II)I"⟩
abbrev cX4_findIdentified : ByteArray := prog_1_method_35_code
def yX4_findIdentified : MethodName := ⟨RX4, "findIdentified", "(II)Z"⟩
abbrev cX4_countWith : ByteArray := prog_1_method_36_code
def yX4_countWith : MethodName := ⟨RX4, "countWith", "(I)I"⟩
def RX5 : String := "TrafficMatrixModel"
def TX5 : u_T := fun k => match k with
  | 0 => ("TrafficMatrixModel", "nodes", "I", false)
  | 1 => ("TrafficMatrixModel", "links", "I", false)
  | 2 => ("TrafficMatrixModel", "sourceOf", "[I", true)
  | 3 => ("TrafficMatrixModel", "targetOf", "[I", true)
  | 4 => ("TrafficMatrixModel", "metricOf", "[I", true)
  | 5 => ("TrafficMatrixModel", "demand", "[I", true)
  | 6 => ("TrafficMatrixModel", "load", "[I", true)
  | 7 => ("TrafficMatrixModel", "outOf", "[I", true)
  | 8 => ("TrafficMatrixModel", "inOf", "[I", true)
  | 9 => ("TrafficMatrixModel", "isMeasured", "[Z", true)
  | 10 => ("TrafficMatrixModel", "measured", "[I", true)
  | 11 => ("TrafficMatrixModel", "guess", "[J", true)
  | 12 => ("TrafficMatrixModel", "distance", "[I", true)
  | 13 => ("TrafficMatrixModel", "bitsOf", "[I", true)
  | 14 => ("TrafficMatrixModel", "row", "[J", true)
  | 15 => ("TrafficMatrixModel", "rows", "I", false)
  | 16 => ("TrafficMatrixModel", "known", "I", false)
  | 17 => ("TrafficMatrixModel", "pivotRow", "[I", true)
  | 18 => ("TrafficMatrixModel", "wasSure", "[Z", true)
  | _ => ("TrafficMatrixModel", "before", "[J", true)
def tyX5 : Nat → FieldType := fun k => match k with
  | 0 => .int
  | 1 => .int
  | 2 => .array .int
  | 3 => .array .int
  | 4 => .array .int
  | 5 => .array .int
  | 6 => .array .int
  | 7 => .array .int
  | 8 => .array .int
  | 9 => .array .boolean
  | 10 => .array .int
  | 11 => .array .long
  | 12 => .array .int
  | 13 => .array .int
  | 14 => .array .long
  | 15 => .int
  | 16 => .int
  | 17 => .array .int
  | 18 => .array .boolean
  | _ => .array .long
abbrev wsX50 : List Cond := u_ws RX5 TX5 20
theorem nmX5 : ∀ a, a < 20 → ∀ b, b < 20 → a ≠ b → (TX5 a).2.1 ≠ (TX5 b).2.1 := by decide +kernel
theorem tyX5_ok : ∀ k, k < 20 → parseFieldDescriptor (TX5 k).2.2.1 = some (tyX5 k) := by decide +kernel
abbrev cX5_init : ByteArray := prog_7_method_1_code
def yX5_init : MethodName := ⟨RX5, "<init>", "()V"⟩
abbrev cX5_within : ByteArray := prog_7_method_2_code
def yX5_within : MethodName := ⟨RX5, "within", "(III)Z"⟩
abbrev cX5_isNode : ByteArray := prog_7_method_3_code
def yX5_isNode : MethodName := ⟨RX5, "isNode", "(I)Z"⟩
abbrev cX5_isLink : ByteArray := prog_7_method_4_code
def yX5_isLink : MethodName := ⟨RX5, "isLink", "(I)Z"⟩
abbrev cX5_refused : ByteArray := prog_7_method_5_code
def yX5_refused : MethodName := ⟨RX5, "refused", "(II)I"⟩
abbrev cX5_reset : ByteArray := prog_7_method_6_code
def yX5_reset : MethodName := ⟨RX5, "reset", "(I)I"⟩
abbrev cX5_addLink : ByteArray := prog_7_method_7_code
def yX5_addLink : MethodName := ⟨RX5, "addLink", "(III)I"⟩
abbrev cX5_setMetric : ByteArray := prog_7_method_8_code
def yX5_setMetric : MethodName := ⟨RX5, "setMetric", "(II)I"⟩
abbrev cX5_costOf : ByteArray := prog_7_method_9_code
def yX5_costOf : MethodName := ⟨RX5, "costOf", "(I)I"⟩
abbrev cX5_findRoutes : ByteArray := prog_7_method_10_code
def yX5_findRoutes : MethodName := ⟨RX5, "findRoutes", "()V"⟩
abbrev cX5_isPair : ByteArray := prog_7_method_11_code
def yX5_isPair : MethodName := ⟨RX5, "isPair", "(I)Z"⟩
abbrev cX5_nextLink : ByteArray := prog_7_method_12_code
def yX5_nextLink : MethodName := ⟨RX5, "nextLink", "(II)I"⟩
abbrev cX5_routeBits : ByteArray := prog_7_method_13_code
def yX5_routeBits : MethodName := ⟨RX5, "routeBits", "(I)I"⟩
abbrev cX5_hasRoute : ByteArray := prog_7_method_14_code
def yX5_hasRoute : MethodName := ⟨RX5, "hasRoute", "(I)Z"⟩
abbrev cX5_uses : ByteArray := prog_7_method_15_code
def yX5_uses : MethodName := ⟨RX5, "uses", "(II)Z"⟩
abbrev cX5_refusedRoute : ByteArray := prog_7_method_16_code
def yX5_refusedRoute : MethodName := ⟨RX5, "refusedRoute", "(II)I"⟩
abbrev cX5_routeLength : ByteArray := prog_7_method_17_code
def yX5_routeLength : MethodName := ⟨RX5, "routeLength", "(II)I"⟩
abbrev cX5_routeLink : ByteArray := prog_7_method_18_code
def yX5_routeLink : MethodName := ⟨RX5, "routeLink", "(III)I"⟩
abbrev cX5_pairsOnLink : ByteArray := prog_7_method_19_code
def yX5_pairsOnLink : MethodName := ⟨RX5, "pairsOnLink", "(I)I"⟩
abbrev cX5_setDemand : ByteArray := prog_7_method_20_code
def yX5_setDemand : MethodName := ⟨RX5, "setDemand", "(III)I"⟩
abbrev cX5_carried : ByteArray := prog_7_method_21_code
def yX5_carried : MethodName := ⟨RX5, "carried", "(I)I"⟩
abbrev cX5_carriedLoad : ByteArray := prog_7_method_22_code
def yX5_carriedLoad : MethodName := ⟨RX5, "carriedLoad", "(I)I"⟩
abbrev cX5_measure : ByteArray := prog_7_method_23_code
def yX5_measure : MethodName := ⟨RX5, "measure", "()I"⟩
abbrev cX5_setMeasuredLoad : ByteArray := prog_7_method_24_code
def yX5_setMeasuredLoad : MethodName := ⟨RX5, "setMeasuredLoad", "(II)I"⟩
abbrev cX5_measuredLoad : ByteArray := prog_7_method_25_code
def yX5_measuredLoad : MethodName := ⟨RX5, "measuredLoad", "(I)I"⟩
abbrev cX5_outTotal : ByteArray := prog_7_method_26_code
def yX5_outTotal : MethodName := ⟨RX5, "outTotal", "(I)I"⟩
abbrev cX5_inTotal : ByteArray := prog_7_method_27_code
def yX5_inTotal : MethodName := ⟨RX5, "inTotal", "(I)I"⟩
abbrev cX5_measurePair : ByteArray := prog_7_method_28_code
def yX5_measurePair : MethodName := ⟨RX5, "measurePair", "(II)I"⟩
abbrev cX5_forgetPair : ByteArray := prog_7_method_29_code
def yX5_forgetPair : MethodName := ⟨RX5, "forgetPair", "(II)I"⟩
abbrev cX5_laysOut : ByteArray := prog_7_method_30_code
def yX5_laysOut : MethodName := ⟨RX5, "laysOut", "(I)V"⟩
abbrev cX5_common : ByteArray := prog_7_method_31_code
def yX5_common : MethodName := ⟨RX5, "common", "(JJ)J"⟩
abbrev cX5_shortens : ByteArray := prog_7_method_32_code
def yX5_shortens : MethodName := ⟨RX5, "shortens", "(I)V"⟩
abbrev cX5_exchanges : ByteArray := prog_7_method_33_code
def yX5_exchanges : MethodName := ⟨RX5, "exchanges", "(II)V"⟩
abbrev cX5_clears : ByteArray := prog_7_method_34_code
def yX5_clears : MethodName := ⟨RX5, "clears", "(III)V"⟩
abbrev cX5_reduces : ByteArray := prog_7_method_35_code
def yX5_reduces : MethodName := ⟨RX5, "reduces", "(I)V"⟩
abbrev cX5_agrees : ByteArray := prog_7_method_36_code
def yX5_agrees : MethodName := ⟨RX5, "agrees", "()Z"⟩
abbrev cX5_isSure : ByteArray := prog_7_method_37_code
def yX5_isSure : MethodName := ⟨RX5, "isSure", "(II)Z"⟩
abbrev cX5_sureCount : ByteArray := prog_7_method_38_code
def yX5_sureCount : MethodName := ⟨RX5, "sureCount", "(I)I"⟩
abbrev cX5_rank : ByteArray := prog_7_method_39_code
def yX5_rank : MethodName := ⟨RX5, "rank", "()I"⟩
abbrev cX5_isConsistent : ByteArray := prog_7_method_40_code
def yX5_isConsistent : MethodName := ⟨RX5, "isConsistent", "()I"⟩
abbrev cX5_isIdentifiable : ByteArray := prog_7_method_41_code
def yX5_isIdentifiable : MethodName := ⟨RX5, "isIdentifiable", "(II)I"⟩
abbrev cX5_identifiableCount : ByteArray := prog_7_method_42_code
def yX5_identifiableCount : MethodName := ⟨RX5, "identifiableCount", "()I"⟩
abbrev cX5_identified : ByteArray := prog_7_method_43_code
def yX5_identified : MethodName := ⟨RX5, "identified", "(III)J"⟩
abbrev cX5_identifiedNumerator : ByteArray := prog_7_method_44_code
def yX5_identifiedNumerator : MethodName := ⟨RX5, "identifiedNumerator", "(II)J"⟩
abbrev cX5_identifiedDenominator : ByteArray := prog_7_method_45_code
def yX5_identifiedDenominator : MethodName := ⟨RX5, "identifiedDenominator", "(II)J"⟩
abbrev cX5_bestPair : ByteArray := prog_7_method_46_code
def yX5_bestPair : MethodName := ⟨RX5, "bestPair", "()I"⟩
abbrev cX5_applyGravity : ByteArray := prog_7_method_47_code
def yX5_applyGravity : MethodName := ⟨RX5, "applyGravity", "()I"⟩
abbrev cX5_keeps : ByteArray := prog_7_method_48_code
def yX5_keeps : MethodName := ⟨RX5, "keeps", "()V"⟩
abbrev cX5_changed : ByteArray := prog_7_method_49_code
def yX5_changed : MethodName := ⟨RX5, "changed", "()I"⟩
abbrev cX5_isOf : ByteArray := prog_7_method_50_code
def yX5_isOf : MethodName := ⟨RX5, "isOf", "(III)Z"⟩
abbrev cX5_sumOf : ByteArray := prog_7_method_51_code
def yX5_sumOf : MethodName := ⟨RX5, "sumOf", "(II)J"⟩
abbrev cX5_fits : ByteArray := prog_7_method_52_code
def yX5_fits : MethodName := ⟨RX5, "fits", "(III)V"⟩
abbrev cX5_fitTotals : ByteArray := prog_7_method_53_code
def yX5_fitTotals : MethodName := ⟨RX5, "fitTotals", "(I)I"⟩
abbrev cX5_fitLinks : ByteArray := prog_7_method_54_code
def yX5_fitLinks : MethodName := ⟨RX5, "fitLinks", "(I)I"⟩
abbrev cX5_estimate : ByteArray := prog_7_method_55_code
def yX5_estimate : MethodName := ⟨RX5, "estimate", "(II)J"⟩
abbrev cX5_residual : ByteArray := prog_7_method_56_code
def yX5_residual : MethodName := ⟨RX5, "residual", "(I)J"⟩
abbrev cX5_totalError : ByteArray := prog_7_method_57_code
def yX5_totalError : MethodName := ⟨RX5, "totalError", "()J"⟩
def RJ9 : String := "java/lang/Math"
def TJ9 : u_T := fun k => match k with
  | _ => ("", "", "", false)
def tyJ9 : Nat → FieldType := fun k => match k with
  | _ => .int
abbrev wsJ90 : List Cond := u_ws RJ9 TJ9 0
theorem nmJ9 : ∀ a, a < 0 → ∀ b, b < 0 → a ≠ b → (TJ9 a).2.1 ≠ (TJ9 b).2.1 := by decide +kernel
theorem tyJ9_ok : ∀ k, k < 0 → parseFieldDescriptor (TJ9 k).2.2.1 = some (tyJ9 k) := by decide +kernel
abbrev cJ9_abs_067f4 : ByteArray := prog_8_method_61_code
def yJ9_abs_067f4 : MethodName := ⟨RJ9, "abs", "(J)J"⟩
abbrev cJ9_min_7cf53 : ByteArray := prog_8_method_69_code
def yJ9_min_7cf53 : MethodName := ⟨RJ9, "min", "(II)I"⟩
def RJ10 : String := "java/lang/System"
def TJ10 : u_T := fun k => match k with
  | _ => ("", "", "", false)
def tyJ10 : Nat → FieldType := fun k => match k with
  | _ => .int
abbrev wsJ100 : List Cond := u_ws RJ10 TJ10 0
theorem nmJ10 : ∀ a, a < 0 → ∀ b, b < 0 → a ≠ b → (TJ10 a).2.1 ≠ (TJ10 b).2.1 := by decide +kernel
theorem tyJ10_ok : ∀ k, k < 0 → parseFieldDescriptor (TJ10 k).2.2.1 = some (tyJ10 k) := by decide +kernel
def RJ7 : String := "java/util/Arrays"
def TJ7 : u_T := fun k => match k with
  | _ => ("", "", "", false)
def tyJ7 : Nat → FieldType := fun k => match k with
  | _ => .int
abbrev wsJ70 : List Cond := u_ws RJ7 TJ7 0
theorem nmJ7 : ∀ a, a < 0 → ∀ b, b < 0 → a ≠ b → (TJ7 a).2.1 ≠ (TJ7 b).2.1 := by decide +kernel
theorem tyJ7_ok : ∀ k, k < 0 → parseFieldDescriptor (TJ7 k).2.2.1 = some (tyJ7 k) := by decide +kernel
abbrev cJ7_fill_d0a16 : ByteArray := prog_10_method_101_code
def yJ7_fill_d0a16 : MethodName := ⟨RJ7, "fill", "([JJ)V"⟩
abbrev cJ7_fill_53178 : ByteArray := prog_10_method_103_code
def yJ7_fill_53178 : MethodName := ⟨RJ7, "fill", "([II)V"⟩
def RL : String := "TrafficMatrixLaw"
abbrev cL_law : ByteArray := code
def yL_law : MethodName := ⟨RL, "law", "([I)Z"⟩
def wsX0_init : List Cond := .code yX0_init cX0_init 1 none :: ([.methodLink RX0 3 objectInit, .instanceMethod objectInit, .code objectInit ⟨#[0xb1]⟩ 1 none, .classLink RX0 9 "[[J", .arrayClass .long, .fieldLink RX0 11 "TrafficMatrix$Equations" "rows" "[[J", .arrayClass .int, .fieldLink RX0 16 "TrafficMatrix$Equations" "rowOfPivot" "[I", .fieldLink RX0 20 "TrafficMatrix$Equations" "pivotOfRow" "[I", .arrayClass .boolean, .fieldLink RX0 23 "TrafficMatrix$Equations" "known" "[Z"] ++ wsX00)
def wsX3_hasRoute : List Cond := .code yX3_hasRoute cX3_hasRoute 2 (some .boolean) :: ([.fieldLink RX3 21 "TrafficMatrix$Network" "routeLengths" "[I"] ++ wsX30)
def wsX2_hasPair : List Cond := .code yX2_hasPair cX2_hasPair 2 (some .boolean) :: ([.fieldLink RX2 21 "TrafficMatrix$Measurements" "pairValues" "[I"] ++ wsX20)
def wsX0_findKnown : List Cond := .code yX0_findKnown cX0_findKnown 4 none :: ([.fieldLink RX0 47 "TrafficMatrix$Equations" "knownCount" "I", .fieldLink RX0 23 "TrafficMatrix$Equations" "known" "[Z", .methodLink RX0 50 yX3_hasRoute, .instanceMethod yX3_hasRoute, .selects RX3 yX3_hasRoute yX3_hasRoute, .initialized RX3, .code yX3_hasRoute cX3_hasRoute 2 (some .boolean), .fieldLink RX3 21 "TrafficMatrix$Network" "routeLengths" "[I", .methodLink RX0 54 yX2_hasPair, .instanceMethod yX2_hasPair, .selects RX2 yX2_hasPair yX2_hasPair, .initialized RX2, .code yX2_hasPair cX2_hasPair 2 (some .boolean), .fieldLink RX2 21 "TrafficMatrix$Measurements" "pairValues" "[I"] ++ wsX00 ++ wsX30 ++ wsX20)
def wsJ7_fill_d0a16 : List Cond := .code yJ7_fill_d0a16 cJ7_fill_d0a16 5 none :: ([])
def wsX3_routeUses : List Cond := .code yX3_routeUses cX3_routeUses 4 (some .boolean) :: ([.fieldLink RX3 21 "TrafficMatrix$Network" "routeLengths" "[I", .fieldLink RX3 26 "TrafficMatrix$Network" "routeLinks" "[[I"] ++ wsX30)
def wsX0_fillRow : List Cond := .code yX0_fillRow cX0_fillRow 6 none :: ([.fieldLink RX0 11 "TrafficMatrix$Equations" "rows" "[[J", .fieldLink RX0 65 "TrafficMatrix$Measurements" "loads" "[I", .fieldLink RX0 23 "TrafficMatrix$Equations" "known" "[Z", .fieldLink RX0 72 "TrafficMatrix$Measurements" "pairValues" "[I", .methodLink RX0 59 yJ7_fill_d0a16, .static yJ7_fill_d0a16, .initialized RJ7, .code yJ7_fill_d0a16 cJ7_fill_d0a16 5 none, .methodLink RX0 68 yX3_routeUses, .instanceMethod yX3_routeUses, .selects RX3 yX3_routeUses yX3_routeUses, .initialized RX3, .code yX3_routeUses cX3_routeUses 4 (some .boolean), .fieldLink RX3 21 "TrafficMatrix$Network" "routeLengths" "[I", .fieldLink RX3 26 "TrafficMatrix$Network" "routeLinks" "[[I"] ++ wsX00 ++ wsX20 ++ wsX30)
def wsJ7_fill_53178 : List Cond := .code yJ7_fill_53178 cJ7_fill_53178 4 none :: ([])
def wsX0_findPivotRow : List Cond := .code yX0_findPivotRow cX0_findPivotRow 3 (some .int) :: ([.fieldLink RX0 33 "TrafficMatrix$Equations" "rowCount" "I", .fieldLink RX0 20 "TrafficMatrix$Equations" "pivotOfRow" "[I", .fieldLink RX0 11 "TrafficMatrix$Equations" "rows" "[[J"] ++ wsX00)
def wsX0_quotient : List Cond := .code yX0_quotient cX0_quotient 4 (some .long) :: ([])
def wsX0_combine : List Cond := .code yX0_combine cX0_combine 9 none :: ([.fieldLink RX0 78 "TrafficMatrix$Equations" "pivot" "J", .methodLink RX0 97 yX0_quotient, .static yX0_quotient, .initialized RX0, .code yX0_quotient cX0_quotient 4 (some .long)] ++ wsX00)
def wsX0_clearColumn : List Cond := .code yX0_clearColumn cX0_clearColumn 6 none :: ([.fieldLink RX0 11 "TrafficMatrix$Equations" "rows" "[[J", .fieldLink RX0 33 "TrafficMatrix$Equations" "rowCount" "I", .fieldLink RX0 78 "TrafficMatrix$Equations" "pivot" "J", .methodLink RX0 93 yX0_combine, .instanceMethod yX0_combine, .selects RX0 yX0_combine yX0_combine, .initialized RX0, .code yX0_combine cX0_combine 9 none, .methodLink RX0 97 yX0_quotient, .static yX0_quotient, .code yX0_quotient cX0_quotient 4 (some .long)] ++ wsX00)
def wsX0_eliminate_r1 : List Cond := [Cond.fieldLink RX0 75 "TrafficMatrix$Equations" "pivotCount" "I", Cond.fieldLink RX0 78 "TrafficMatrix$Equations" "pivot" "J", Cond.fieldLink RX0 16 "TrafficMatrix$Equations" "rowOfPivot" "[I", Cond.fieldLink RX0 20 "TrafficMatrix$Equations" "pivotOfRow" "[I", Cond.methodLink RX0 82 yJ7_fill_53178, Cond.static yJ7_fill_53178, Cond.initialized RJ7, Cond.code yJ7_fill_53178 cJ7_fill_53178 4 none, Cond.methodLink RX0 85 yX0_findPivotRow, Cond.instanceMethod yX0_findPivotRow, Cond.selects RX0 yX0_findPivotRow yX0_findPivotRow, Cond.initialized RX0, Cond.code yX0_findPivotRow cX0_findPivotRow 3 (some .int), Cond.fieldLink RX0 33 "TrafficMatrix$Equations" "rowCount" "I", Cond.fieldLink RX0 11 "TrafficMatrix$Equations" "rows" "[[J", Cond.methodLink RX0 89 yX0_clearColumn, Cond.instanceMethod yX0_clearColumn, Cond.selects RX0 yX0_clearColumn yX0_clearColumn, Cond.code yX0_clearColumn cX0_clearColumn 6 none, Cond.methodLink RX0 93 yX0_combine, Cond.instanceMethod yX0_combine, Cond.selects RX0 yX0_combine yX0_combine, Cond.code yX0_combine cX0_combine 9 none, Cond.methodLink RX0 97 yX0_quotient]
def wsX0_eliminate_r2 : List Cond := [Cond.static yX0_quotient, Cond.code yX0_quotient cX0_quotient 4 (some .long)]
def wsX0_eliminate : List Cond := .code yX0_eliminate cX0_eliminate 3 none :: ((wsX0_eliminate_r1 ++ wsX0_eliminate_r2) ++ wsX00)
def wsX0_solve_r1 : List Cond := [Cond.fieldLink RX0 27 "TrafficMatrix$Network" "linkCount" "I", Cond.fieldLink RX0 33 "TrafficMatrix$Equations" "rowCount" "I", Cond.methodLink RX0 36 yX0_findKnown, Cond.instanceMethod yX0_findKnown, Cond.selects RX0 yX0_findKnown yX0_findKnown, Cond.initialized RX0, Cond.code yX0_findKnown cX0_findKnown 4 none, Cond.fieldLink RX0 47 "TrafficMatrix$Equations" "knownCount" "I", Cond.fieldLink RX0 23 "TrafficMatrix$Equations" "known" "[Z", Cond.methodLink RX0 50 yX3_hasRoute, Cond.instanceMethod yX3_hasRoute, Cond.selects RX3 yX3_hasRoute yX3_hasRoute, Cond.initialized RX3, Cond.code yX3_hasRoute cX3_hasRoute 2 (some .boolean), Cond.fieldLink RX3 21 "TrafficMatrix$Network" "routeLengths" "[I", Cond.methodLink RX0 54 yX2_hasPair, Cond.instanceMethod yX2_hasPair, Cond.selects RX2 yX2_hasPair yX2_hasPair, Cond.initialized RX2, Cond.code yX2_hasPair cX2_hasPair 2 (some .boolean), Cond.fieldLink RX2 21 "TrafficMatrix$Measurements" "pairValues" "[I", Cond.methodLink RX0 40 yX0_fillRow, Cond.instanceMethod yX0_fillRow, Cond.selects RX0 yX0_fillRow yX0_fillRow]
def wsX0_solve_r2 : List Cond := [Cond.code yX0_fillRow cX0_fillRow 6 none, Cond.fieldLink RX0 11 "TrafficMatrix$Equations" "rows" "[[J", Cond.fieldLink RX0 65 "TrafficMatrix$Measurements" "loads" "[I", Cond.fieldLink RX0 72 "TrafficMatrix$Measurements" "pairValues" "[I", Cond.methodLink RX0 59 yJ7_fill_d0a16, Cond.static yJ7_fill_d0a16, Cond.initialized RJ7, Cond.code yJ7_fill_d0a16 cJ7_fill_d0a16 5 none, Cond.methodLink RX0 68 yX3_routeUses, Cond.instanceMethod yX3_routeUses, Cond.selects RX3 yX3_routeUses yX3_routeUses, Cond.code yX3_routeUses cX3_routeUses 4 (some .boolean), Cond.fieldLink RX3 26 "TrafficMatrix$Network" "routeLinks" "[[I", Cond.methodLink RX0 44 yX0_eliminate, Cond.instanceMethod yX0_eliminate, Cond.selects RX0 yX0_eliminate yX0_eliminate, Cond.code yX0_eliminate cX0_eliminate 3 none, Cond.fieldLink RX0 75 "TrafficMatrix$Equations" "pivotCount" "I", Cond.fieldLink RX0 78 "TrafficMatrix$Equations" "pivot" "J", Cond.fieldLink RX0 16 "TrafficMatrix$Equations" "rowOfPivot" "[I", Cond.fieldLink RX0 20 "TrafficMatrix$Equations" "pivotOfRow" "[I", Cond.methodLink RX0 82 yJ7_fill_53178, Cond.static yJ7_fill_53178, Cond.code yJ7_fill_53178 cJ7_fill_53178 4 none]
def wsX0_solve_r3 : List Cond := [Cond.methodLink RX0 85 yX0_findPivotRow, Cond.instanceMethod yX0_findPivotRow, Cond.selects RX0 yX0_findPivotRow yX0_findPivotRow, Cond.code yX0_findPivotRow cX0_findPivotRow 3 (some .int), Cond.methodLink RX0 89 yX0_clearColumn, Cond.instanceMethod yX0_clearColumn, Cond.selects RX0 yX0_clearColumn yX0_clearColumn, Cond.code yX0_clearColumn cX0_clearColumn 6 none, Cond.methodLink RX0 93 yX0_combine, Cond.instanceMethod yX0_combine, Cond.selects RX0 yX0_combine yX0_combine, Cond.code yX0_combine cX0_combine 9 none, Cond.methodLink RX0 97 yX0_quotient, Cond.static yX0_quotient, Cond.code yX0_quotient cX0_quotient 4 (some .long)]
def wsX0_solve : List Cond := .code yX0_solve cX0_solve 4 none :: ((wsX0_solve_r1 ++ (wsX0_solve_r2 ++ wsX0_solve_r3)) ++ wsX30 ++ wsX00 ++ wsX20)
def wsX0_haveSolution : List Cond := .code yX0_haveSolution cX0_haveSolution 2 (some .boolean) :: ([.fieldLink RX0 33 "TrafficMatrix$Equations" "rowCount" "I", .fieldLink RX0 20 "TrafficMatrix$Equations" "pivotOfRow" "[I", .fieldLink RX0 11 "TrafficMatrix$Equations" "rows" "[[J"] ++ wsX00)
def wsX0_freePart : List Cond := .code yX0_freePart cX0_freePart 4 (some .long) :: ([.fieldLink RX0 23 "TrafficMatrix$Equations" "known" "[Z", .fieldLink RX0 16 "TrafficMatrix$Equations" "rowOfPivot" "[I", .fieldLink RX0 11 "TrafficMatrix$Equations" "rows" "[[J"] ++ wsX00)
def wsX0_firstFreePart : List Cond := .code yX0_firstFreePart cX0_firstFreePart 3 (some .int) :: ([.methodLink RX0 107 yX0_freePart, .instanceMethod yX0_freePart, .selects RX0 yX0_freePart yX0_freePart, .initialized RX0, .code yX0_freePart cX0_freePart 4 (some .long), .fieldLink RX0 23 "TrafficMatrix$Equations" "known" "[Z", .fieldLink RX0 16 "TrafficMatrix$Equations" "rowOfPivot" "[I", .fieldLink RX0 11 "TrafficMatrix$Equations" "rows" "[[J"] ++ wsX00)
def wsX0_determine : List Cond := .code yX0_determine cX0_determine 2 (some .boolean) :: ([.methodLink RX0 101 yX0_firstFreePart, .instanceMethod yX0_firstFreePart, .selects RX0 yX0_firstFreePart yX0_firstFreePart, .initialized RX0, .code yX0_firstFreePart cX0_firstFreePart 3 (some .int), .methodLink RX0 107 yX0_freePart, .instanceMethod yX0_freePart, .selects RX0 yX0_freePart yX0_freePart, .code yX0_freePart cX0_freePart 4 (some .long), .fieldLink RX0 23 "TrafficMatrix$Equations" "known" "[Z", .fieldLink RX0 16 "TrafficMatrix$Equations" "rowOfPivot" "[I", .fieldLink RX0 11 "TrafficMatrix$Equations" "rows" "[[J"] ++ wsX00)
def wsX0_determineWith : List Cond := .code yX0_determineWith cX0_determineWith 5 (some .boolean) :: ([.methodLink RX0 101 yX0_firstFreePart, .instanceMethod yX0_firstFreePart, .selects RX0 yX0_firstFreePart yX0_firstFreePart, .initialized RX0, .code yX0_firstFreePart cX0_firstFreePart 3 (some .int), .methodLink RX0 107 yX0_freePart, .instanceMethod yX0_freePart, .selects RX0 yX0_freePart yX0_freePart, .code yX0_freePart cX0_freePart 4 (some .long), .fieldLink RX0 23 "TrafficMatrix$Equations" "known" "[Z", .fieldLink RX0 16 "TrafficMatrix$Equations" "rowOfPivot" "[I", .fieldLink RX0 11 "TrafficMatrix$Equations" "rows" "[[J", .methodLink RX0 104 yX0_determine, .instanceMethod yX0_determine, .selects RX0 yX0_determine yX0_determine, .code yX0_determine cX0_determine 2 (some .boolean)] ++ wsX00)
def wsX0_divisorOfPivotAnd : List Cond := .code yX0_divisorOfPivotAnd cX0_divisorOfPivotAnd 10 (some .long) :: ([.fieldLink RX0 78 "TrafficMatrix$Equations" "pivot" "J", .methodLink RX0 115 Lib.MathLoose.abs_long.x, .static Lib.MathLoose.abs_long.x, .initialized "java/lang/Math", .code Lib.MathLoose.abs_long.x Lib.MathLoose.abs_long.code 2 (some .long)] ++ wsX00)
def wsX0_numeratorOf : List Cond := .code yX0_numeratorOf cX0_numeratorOf 6 (some .long) :: ([.fieldLink RX0 16 "TrafficMatrix$Equations" "rowOfPivot" "[I", .fieldLink RX0 72 "TrafficMatrix$Measurements" "pairValues" "[I", .fieldLink RX0 11 "TrafficMatrix$Equations" "rows" "[[J", .fieldLink RX0 78 "TrafficMatrix$Equations" "pivot" "J", .methodLink RX0 111 yX0_divisorOfPivotAnd, .instanceMethod yX0_divisorOfPivotAnd, .selects RX0 yX0_divisorOfPivotAnd yX0_divisorOfPivotAnd, .initialized RX0, .code yX0_divisorOfPivotAnd cX0_divisorOfPivotAnd 10 (some .long), .methodLink RX0 115 Lib.MathLoose.abs_long.x, .static Lib.MathLoose.abs_long.x, .initialized "java/lang/Math", .code Lib.MathLoose.abs_long.x Lib.MathLoose.abs_long.code 2 (some .long), .methodLink RX0 97 yX0_quotient, .static yX0_quotient, .code yX0_quotient cX0_quotient 4 (some .long)] ++ wsX00 ++ wsX20)
def wsX0_denominatorOf : List Cond := .code yX0_denominatorOf cX0_denominatorOf 3 (some .long) :: ([.fieldLink RX0 16 "TrafficMatrix$Equations" "rowOfPivot" "[I", .fieldLink RX0 78 "TrafficMatrix$Equations" "pivot" "J", .methodLink RX0 115 Lib.MathLoose.abs_long.x, .static Lib.MathLoose.abs_long.x, .initialized "java/lang/Math", .code Lib.MathLoose.abs_long.x Lib.MathLoose.abs_long.code 2 (some .long), .fieldLink RX0 11 "TrafficMatrix$Equations" "rows" "[[J", .methodLink RX0 111 yX0_divisorOfPivotAnd, .instanceMethod yX0_divisorOfPivotAnd, .selects RX0 yX0_divisorOfPivotAnd yX0_divisorOfPivotAnd, .initialized RX0, .code yX0_divisorOfPivotAnd cX0_divisorOfPivotAnd 10 (some .long), .methodLink RX0 97 yX0_quotient, .static yX0_quotient, .code yX0_quotient cX0_quotient 4 (some .long)] ++ wsX00)
def wsX1_init : List Cond := .code yX1_init cX1_init 1 none :: ([.methodLink RX1 3 objectInit, .instanceMethod objectInit, .code objectInit ⟨#[0xb1]⟩ 1 none, .arrayClass .long, .fieldLink RX1 9 "TrafficMatrix$Estimates" "values" "[J", .fieldLink RX1 15 "TrafficMatrix$Estimates" "remembered" "[J"] ++ wsX10)
def wsX1_startAnew : List Cond := .code yX1_startAnew cX1_startAnew 1 none :: ([.fieldLink RX1 9 "TrafficMatrix$Estimates" "values" "[J", .methodLink RX1 18 yJ7_fill_d0a16, .static yJ7_fill_d0a16, .initialized RJ7, .code yJ7_fill_d0a16 cJ7_fill_d0a16 5 none] ++ wsX10)
def wsX1_remember : List Cond := .code yX1_remember cX1_remember 1 none :: ([.fieldLink RX1 9 "TrafficMatrix$Estimates" "values" "[J", .fieldLink RX1 15 "TrafficMatrix$Estimates" "remembered" "[J", .methodLink RX1 24 arraycopyName, .native arraycopyName, .static arraycopyName, .initialized "java/lang/System"] ++ wsX10)
def wsX1_countChanged : List Cond := .code yX1_countChanged cX1_countChanged 3 (some .int) :: ([.fieldLink RX1 9 "TrafficMatrix$Estimates" "values" "[J", .fieldLink RX1 15 "TrafficMatrix$Estimates" "remembered" "[J"] ++ wsX10)
def wsX2_sumOfOutTotals : List Cond := .code yX2_sumOfOutTotals cX2_sumOfOutTotals 3 (some .int) :: ([.fieldLink RX2 15 "TrafficMatrix$Measurements" "outTotals" "[I"] ++ wsX20)
def wsX1_scaled : List Cond := .code yX1_scaled cX1_scaled 6 (some .long) :: ([.constantLong RX1 80 (1000)])
def wsX1_takeGravity : List Cond := .code yX1_takeGravity cX1_takeGravity 9 (some .int) :: ([.fieldLink RX1 9 "TrafficMatrix$Estimates" "values" "[J", .fieldLink RX1 42 "TrafficMatrix$Measurements" "outTotals" "[I", .fieldLink RX1 46 "TrafficMatrix$Measurements" "inTotals" "[I", .methodLink RX1 30 yX2_sumOfOutTotals, .instanceMethod yX2_sumOfOutTotals, .selects RX2 yX2_sumOfOutTotals yX2_sumOfOutTotals, .initialized RX2, .code yX2_sumOfOutTotals cX2_sumOfOutTotals 3 (some .int), .fieldLink RX2 15 "TrafficMatrix$Measurements" "outTotals" "[I", .methodLink RX1 36 yX3_hasRoute, .instanceMethod yX3_hasRoute, .selects RX3 yX3_hasRoute yX3_hasRoute, .initialized RX3, .code yX3_hasRoute cX3_hasRoute 2 (some .boolean), .fieldLink RX3 21 "TrafficMatrix$Network" "routeLengths" "[I", .methodLink RX1 49 yX1_scaled, .static yX1_scaled, .initialized RX1, .code yX1_scaled cX1_scaled 6 (some .long), .constantLong RX1 80 (1000)] ++ wsX10 ++ wsX20 ++ wsX30)
def wsX4_slotOf : List Cond := .code yX4_slotOf cX4_slotOf 2 (some .int) :: ([])
def wsX1_fitLine : List Cond := .code yX1_fitLine cX1_fitLine 8 none :: ([.fieldLink RX1 9 "TrafficMatrix$Estimates" "values" "[J", .methodLink RX1 49 yX1_scaled, .static yX1_scaled, .initialized RX1, .code yX1_scaled cX1_scaled 6 (some .long), .constantLong RX1 80 (1000)] ++ wsX10)
def wsX1_fitOnceToTotals : List Cond := .code yX1_fitOnceToTotals cX1_fitOnceToTotals 3 none :: ([.fieldLink RX1 42 "TrafficMatrix$Measurements" "outTotals" "[I", .fieldLink RX1 46 "TrafficMatrix$Measurements" "inTotals" "[I", .static yX4_slotOf, .initialized RX4, .code yX4_slotOf cX4_slotOf 2 (some .int), .methodLink RX1 57 yX1_fitLine, .instanceMethod yX1_fitLine, .selects RX1 yX1_fitLine yX1_fitLine, .initialized RX1, .code yX1_fitLine cX1_fitLine 8 none, .fieldLink RX1 9 "TrafficMatrix$Estimates" "values" "[J", .methodLink RX1 49 yX1_scaled, .static yX1_scaled, .code yX1_scaled cX1_scaled 6 (some .long), .constantLong RX1 80 (1000)] ++ wsX20 ++ wsX10)
def wsX1_sumOnLink : List Cond := .code yX1_sumOnLink cX1_sumOnLink 6 (some .long) :: ([.fieldLink RX1 9 "TrafficMatrix$Estimates" "values" "[J", .methodLink RX1 76 yX3_routeUses, .instanceMethod yX3_routeUses, .selects RX3 yX3_routeUses yX3_routeUses, .initialized RX3, .code yX3_routeUses cX3_routeUses 4 (some .boolean), .fieldLink RX3 21 "TrafficMatrix$Network" "routeLengths" "[I", .fieldLink RX3 26 "TrafficMatrix$Network" "routeLinks" "[[I"] ++ wsX10 ++ wsX30)
def wsX1_fitLink : List Cond := .code yX1_fitLink cX1_fitLink 7 none :: ([.fieldLink RX1 9 "TrafficMatrix$Estimates" "values" "[J", .methodLink RX1 72 yX1_sumOnLink, .instanceMethod yX1_sumOnLink, .selects RX1 yX1_sumOnLink yX1_sumOnLink, .initialized RX1, .code yX1_sumOnLink cX1_sumOnLink 6 (some .long), .methodLink RX1 76 yX3_routeUses, .instanceMethod yX3_routeUses, .selects RX3 yX3_routeUses yX3_routeUses, .initialized RX3, .code yX3_routeUses cX3_routeUses 4 (some .boolean), .fieldLink RX3 21 "TrafficMatrix$Network" "routeLengths" "[I", .fieldLink RX3 26 "TrafficMatrix$Network" "routeLinks" "[[I", .methodLink RX1 49 yX1_scaled, .static yX1_scaled, .code yX1_scaled cX1_scaled 6 (some .long), .constantLong RX1 80 (1000)] ++ wsX10 ++ wsX30)
def wsX1_fitOnceToLinks : List Cond := .code yX1_fitOnceToLinks cX1_fitOnceToLinks 4 none :: ([.fieldLink RX1 61 "TrafficMatrix$Network" "linkCount" "I", .fieldLink RX1 65 "TrafficMatrix$Measurements" "loads" "[I", .methodLink RX1 68 yX1_fitLink, .instanceMethod yX1_fitLink, .selects RX1 yX1_fitLink yX1_fitLink, .initialized RX1, .code yX1_fitLink cX1_fitLink 7 none, .fieldLink RX1 9 "TrafficMatrix$Estimates" "values" "[J", .methodLink RX1 72 yX1_sumOnLink, .instanceMethod yX1_sumOnLink, .selects RX1 yX1_sumOnLink yX1_sumOnLink, .code yX1_sumOnLink cX1_sumOnLink 6 (some .long), .methodLink RX1 76 yX3_routeUses, .instanceMethod yX3_routeUses, .selects RX3 yX3_routeUses yX3_routeUses, .initialized RX3, .code yX3_routeUses cX3_routeUses 4 (some .boolean), .fieldLink RX3 21 "TrafficMatrix$Network" "routeLengths" "[I", .fieldLink RX3 26 "TrafficMatrix$Network" "routeLinks" "[[I", .methodLink RX1 49 yX1_scaled, .static yX1_scaled, .code yX1_scaled cX1_scaled 6 (some .long), .constantLong RX1 80 (1000)] ++ wsX30 ++ wsX20 ++ wsX10)
def wsX2_init : List Cond := .code yX2_init cX2_init 1 none :: ([.methodLink RX2 3 objectInit, .instanceMethod objectInit, .code objectInit ⟨#[0xb1]⟩ 1 none, .arrayClass .int, .fieldLink RX2 9 "TrafficMatrix$Measurements" "loads" "[I", .fieldLink RX2 15 "TrafficMatrix$Measurements" "outTotals" "[I", .fieldLink RX2 18 "TrafficMatrix$Measurements" "inTotals" "[I", .fieldLink RX2 21 "TrafficMatrix$Measurements" "pairValues" "[I"] ++ wsX20)
def wsX2_startAnew : List Cond := .code yX2_startAnew cX2_startAnew 1 none :: ([.fieldLink RX2 9 "TrafficMatrix$Measurements" "loads" "[I", .fieldLink RX2 15 "TrafficMatrix$Measurements" "outTotals" "[I", .fieldLink RX2 18 "TrafficMatrix$Measurements" "inTotals" "[I", .fieldLink RX2 21 "TrafficMatrix$Measurements" "pairValues" "[I", .methodLink RX2 24 yJ7_fill_53178, .static yJ7_fill_53178, .initialized RJ7, .code yJ7_fill_53178 cJ7_fill_53178 4 none] ++ wsX20)
def wsX3_loadOf : List Cond := .code yX3_loadOf cX3_loadOf 5 (some .int) :: ([.methodLink RX3 45 yX3_routeUses, .instanceMethod yX3_routeUses, .selects RX3 yX3_routeUses yX3_routeUses, .initialized RX3, .code yX3_routeUses cX3_routeUses 4 (some .boolean), .fieldLink RX3 21 "TrafficMatrix$Network" "routeLengths" "[I", .fieldLink RX3 26 "TrafficMatrix$Network" "routeLinks" "[[I"] ++ wsX30)
def wsX2_take : List Cond := .code yX2_take cX2_take 4 none :: ([.fieldLink RX2 30 "TrafficMatrix$Network" "linkCount" "I", .fieldLink RX2 9 "TrafficMatrix$Measurements" "loads" "[I", .fieldLink RX2 15 "TrafficMatrix$Measurements" "outTotals" "[I", .fieldLink RX2 18 "TrafficMatrix$Measurements" "inTotals" "[I", .methodLink RX2 36 yX3_loadOf, .instanceMethod yX3_loadOf, .selects RX3 yX3_loadOf yX3_loadOf, .initialized RX3, .code yX3_loadOf cX3_loadOf 5 (some .int), .methodLink RX3 45 yX3_routeUses, .instanceMethod yX3_routeUses, .selects RX3 yX3_routeUses yX3_routeUses, .code yX3_routeUses cX3_routeUses 4 (some .boolean), .fieldLink RX3 21 "TrafficMatrix$Network" "routeLengths" "[I", .fieldLink RX3 26 "TrafficMatrix$Network" "routeLinks" "[[I", .methodLink RX2 24 yJ7_fill_53178, .static yJ7_fill_53178, .initialized RJ7, .code yJ7_fill_53178 cJ7_fill_53178 4 none, .methodLink RX2 40 yX3_hasRoute, .instanceMethod yX3_hasRoute, .selects RX3 yX3_hasRoute yX3_hasRoute, .code yX3_hasRoute cX3_hasRoute 2 (some .boolean)] ++ wsX30 ++ wsX20)
def wsX3_init : List Cond := .code yX3_init cX3_init 1 none :: ([.methodLink RX3 3 objectInit, .instanceMethod objectInit, .code objectInit ⟨#[0xb1]⟩ 1 none, .arrayClass .int, .fieldLink RX3 9 "TrafficMatrix$Network" "sources" "[I", .fieldLink RX3 15 "TrafficMatrix$Network" "targets" "[I", .fieldLink RX3 18 "TrafficMatrix$Network" "metrics" "[I", .fieldLink RX3 21 "TrafficMatrix$Network" "routeLengths" "[I", .classLink RX3 24 "[[I", .fieldLink RX3 26 "TrafficMatrix$Network" "routeLinks" "[[I", .fieldLink RX3 29 "TrafficMatrix$Network" "costs" "[I"] ++ wsX30)
def wsX3_startAnew : List Cond := .code yX3_startAnew cX3_startAnew 2 none :: ([.fieldLink RX3 32 "TrafficMatrix$Network" "nodeCount" "I", .fieldLink RX3 36 "TrafficMatrix$Network" "linkCount" "I", .fieldLink RX3 21 "TrafficMatrix$Network" "routeLengths" "[I", .methodLink RX3 39 yJ7_fill_53178, .static yJ7_fill_53178, .initialized RJ7, .code yJ7_fill_53178 cJ7_fill_53178 4 none] ++ wsX30)
def wsX3_hasNode : List Cond := .code yX3_hasNode cX3_hasNode 2 (some .boolean) :: ([.fieldLink RX3 32 "TrafficMatrix$Network" "nodeCount" "I"] ++ wsX30)
def wsX3_hasLink : List Cond := .code yX3_hasLink cX3_hasLink 2 (some .boolean) :: ([.fieldLink RX3 36 "TrafficMatrix$Network" "linkCount" "I"] ++ wsX30)
def wsX3_costOver : List Cond := .code yX3_costOver cX3_costOver 2 (some .int) :: ([.fieldLink RX3 18 "TrafficMatrix$Network" "metrics" "[I", .fieldLink RX3 29 "TrafficMatrix$Network" "costs" "[I", .fieldLink RX3 15 "TrafficMatrix$Network" "targets" "[I"] ++ wsX30)
def wsX3_findCostsTo : List Cond := .code yX3_findCostsTo cX3_findCostsTo 5 none :: ([.fieldLink RX3 29 "TrafficMatrix$Network" "costs" "[I", .constant RX3 60 (1000000), .fieldLink RX3 36 "TrafficMatrix$Network" "linkCount" "I", .fieldLink RX3 9 "TrafficMatrix$Network" "sources" "[I", .methodLink RX3 65 Lib.Math.min.name, .static Lib.Math.min.name, .initialized "java/lang/Math", .code Lib.Math.min.name Lib.Math.min.code 2 (some .int), .methodLink RX3 39 yJ7_fill_53178, .static yJ7_fill_53178, .initialized RJ7, .code yJ7_fill_53178 cJ7_fill_53178 4 none, .methodLink RX3 61 yX3_costOver, .instanceMethod yX3_costOver, .selects RX3 yX3_costOver yX3_costOver, .initialized RX3, .code yX3_costOver cX3_costOver 2 (some .int), .fieldLink RX3 18 "TrafficMatrix$Network" "metrics" "[I", .fieldLink RX3 15 "TrafficMatrix$Network" "targets" "[I"] ++ wsX30)
def wsX3_cheapestFrom : List Cond := .code yX3_cheapestFrom cX3_cheapestFrom 3 (some .int) :: ([.fieldLink RX3 29 "TrafficMatrix$Network" "costs" "[I", .constant RX3 60 (1000000), .fieldLink RX3 36 "TrafficMatrix$Network" "linkCount" "I", .fieldLink RX3 9 "TrafficMatrix$Network" "sources" "[I", .methodLink RX3 61 yX3_costOver, .instanceMethod yX3_costOver, .selects RX3 yX3_costOver yX3_costOver, .initialized RX3, .code yX3_costOver cX3_costOver 2 (some .int), .fieldLink RX3 18 "TrafficMatrix$Network" "metrics" "[I", .fieldLink RX3 15 "TrafficMatrix$Network" "targets" "[I"] ++ wsX30)
def wsX3_findRoute : List Cond := .code yX3_findRoute cX3_findRoute 7 none :: ([.fieldLink RX3 26 "TrafficMatrix$Network" "routeLinks" "[[I", .fieldLink RX3 15 "TrafficMatrix$Network" "targets" "[I", .fieldLink RX3 21 "TrafficMatrix$Network" "routeLengths" "[I", .static yX4_slotOf, .initialized RX4, .code yX4_slotOf cX4_slotOf 2 (some .int), .methodLink RX3 74 yX3_cheapestFrom, .instanceMethod yX3_cheapestFrom, .selects RX3 yX3_cheapestFrom yX3_cheapestFrom, .initialized RX3, .code yX3_cheapestFrom cX3_cheapestFrom 3 (some .int), .fieldLink RX3 29 "TrafficMatrix$Network" "costs" "[I", .constant RX3 60 (1000000), .fieldLink RX3 36 "TrafficMatrix$Network" "linkCount" "I", .fieldLink RX3 9 "TrafficMatrix$Network" "sources" "[I", .methodLink RX3 61 yX3_costOver, .instanceMethod yX3_costOver, .selects RX3 yX3_costOver yX3_costOver, .code yX3_costOver cX3_costOver 2 (some .int), .fieldLink RX3 18 "TrafficMatrix$Network" "metrics" "[I"] ++ wsX30)
def wsX3_findRoutes_r1 : List Cond := [Cond.fieldLink RX3 32 "TrafficMatrix$Network" "nodeCount" "I", Cond.methodLink RX3 52 yX3_findCostsTo, Cond.instanceMethod yX3_findCostsTo, Cond.selects RX3 yX3_findCostsTo yX3_findCostsTo, Cond.initialized RX3, Cond.code yX3_findCostsTo cX3_findCostsTo 5 none, Cond.fieldLink RX3 29 "TrafficMatrix$Network" "costs" "[I", Cond.constant RX3 60 (1000000), Cond.fieldLink RX3 36 "TrafficMatrix$Network" "linkCount" "I", Cond.fieldLink RX3 9 "TrafficMatrix$Network" "sources" "[I", Cond.methodLink RX3 65 Lib.Math.min.name, Cond.static Lib.Math.min.name, Cond.initialized "java/lang/Math", Cond.code Lib.Math.min.name Lib.Math.min.code 2 (some .int), Cond.methodLink RX3 39 yJ7_fill_53178, Cond.static yJ7_fill_53178, Cond.initialized RJ7, Cond.code yJ7_fill_53178 cJ7_fill_53178 4 none, Cond.methodLink RX3 61 yX3_costOver, Cond.instanceMethod yX3_costOver, Cond.selects RX3 yX3_costOver yX3_costOver, Cond.code yX3_costOver cX3_costOver 2 (some .int), Cond.fieldLink RX3 18 "TrafficMatrix$Network" "metrics" "[I", Cond.fieldLink RX3 15 "TrafficMatrix$Network" "targets" "[I"]
def wsX3_findRoutes_r2 : List Cond := [Cond.methodLink RX3 56 yX3_findRoute, Cond.instanceMethod yX3_findRoute, Cond.selects RX3 yX3_findRoute yX3_findRoute, Cond.code yX3_findRoute cX3_findRoute 7 none, Cond.fieldLink RX3 26 "TrafficMatrix$Network" "routeLinks" "[[I", Cond.fieldLink RX3 21 "TrafficMatrix$Network" "routeLengths" "[I", Cond.static yX4_slotOf, Cond.initialized RX4, Cond.code yX4_slotOf cX4_slotOf 2 (some .int), Cond.methodLink RX3 74 yX3_cheapestFrom, Cond.instanceMethod yX3_cheapestFrom, Cond.selects RX3 yX3_cheapestFrom yX3_cheapestFrom, Cond.code yX3_cheapestFrom cX3_cheapestFrom 3 (some .int)]
def wsX3_findRoutes : List Cond := .code yX3_findRoutes cX3_findRoutes 3 none :: ((wsX3_findRoutes_r1 ++ wsX3_findRoutes_r2) ++ wsX30)
def wsX3_append_r1 : List Cond := [Cond.fieldLink RX3 36 "TrafficMatrix$Network" "linkCount" "I", Cond.fieldLink RX3 9 "TrafficMatrix$Network" "sources" "[I", Cond.fieldLink RX3 15 "TrafficMatrix$Network" "targets" "[I", Cond.fieldLink RX3 18 "TrafficMatrix$Network" "metrics" "[I", Cond.methodLink RX3 49 yX3_findRoutes, Cond.instanceMethod yX3_findRoutes, Cond.selects RX3 yX3_findRoutes yX3_findRoutes, Cond.initialized RX3, Cond.code yX3_findRoutes cX3_findRoutes 3 none, Cond.fieldLink RX3 32 "TrafficMatrix$Network" "nodeCount" "I", Cond.methodLink RX3 52 yX3_findCostsTo, Cond.instanceMethod yX3_findCostsTo, Cond.selects RX3 yX3_findCostsTo yX3_findCostsTo, Cond.code yX3_findCostsTo cX3_findCostsTo 5 none, Cond.fieldLink RX3 29 "TrafficMatrix$Network" "costs" "[I", Cond.constant RX3 60 (1000000), Cond.methodLink RX3 65 Lib.Math.min.name, Cond.static Lib.Math.min.name, Cond.initialized "java/lang/Math", Cond.code Lib.Math.min.name Lib.Math.min.code 2 (some .int), Cond.methodLink RX3 39 yJ7_fill_53178, Cond.static yJ7_fill_53178, Cond.initialized RJ7, Cond.code yJ7_fill_53178 cJ7_fill_53178 4 none]
def wsX3_append_r2 : List Cond := [Cond.methodLink RX3 61 yX3_costOver, Cond.instanceMethod yX3_costOver, Cond.selects RX3 yX3_costOver yX3_costOver, Cond.code yX3_costOver cX3_costOver 2 (some .int), Cond.methodLink RX3 56 yX3_findRoute, Cond.instanceMethod yX3_findRoute, Cond.selects RX3 yX3_findRoute yX3_findRoute, Cond.code yX3_findRoute cX3_findRoute 7 none, Cond.fieldLink RX3 26 "TrafficMatrix$Network" "routeLinks" "[[I", Cond.fieldLink RX3 21 "TrafficMatrix$Network" "routeLengths" "[I", Cond.static yX4_slotOf, Cond.initialized RX4, Cond.code yX4_slotOf cX4_slotOf 2 (some .int), Cond.methodLink RX3 74 yX3_cheapestFrom, Cond.instanceMethod yX3_cheapestFrom, Cond.selects RX3 yX3_cheapestFrom yX3_cheapestFrom, Cond.code yX3_cheapestFrom cX3_cheapestFrom 3 (some .int)]
def wsX3_append : List Cond := .code yX3_append cX3_append 5 (some .int) :: ((wsX3_append_r1 ++ wsX3_append_r2) ++ wsX30)
def wsX3_replaceMetric_r1 : List Cond := [Cond.fieldLink RX3 18 "TrafficMatrix$Network" "metrics" "[I", Cond.methodLink RX3 49 yX3_findRoutes, Cond.instanceMethod yX3_findRoutes, Cond.selects RX3 yX3_findRoutes yX3_findRoutes, Cond.initialized RX3, Cond.code yX3_findRoutes cX3_findRoutes 3 none, Cond.fieldLink RX3 32 "TrafficMatrix$Network" "nodeCount" "I", Cond.methodLink RX3 52 yX3_findCostsTo, Cond.instanceMethod yX3_findCostsTo, Cond.selects RX3 yX3_findCostsTo yX3_findCostsTo, Cond.code yX3_findCostsTo cX3_findCostsTo 5 none, Cond.fieldLink RX3 29 "TrafficMatrix$Network" "costs" "[I", Cond.constant RX3 60 (1000000), Cond.fieldLink RX3 36 "TrafficMatrix$Network" "linkCount" "I", Cond.fieldLink RX3 9 "TrafficMatrix$Network" "sources" "[I", Cond.methodLink RX3 65 Lib.Math.min.name, Cond.static Lib.Math.min.name, Cond.initialized "java/lang/Math", Cond.code Lib.Math.min.name Lib.Math.min.code 2 (some .int), Cond.methodLink RX3 39 yJ7_fill_53178, Cond.static yJ7_fill_53178, Cond.initialized RJ7, Cond.code yJ7_fill_53178 cJ7_fill_53178 4 none, Cond.methodLink RX3 61 yX3_costOver]
def wsX3_replaceMetric_r2 : List Cond := [Cond.instanceMethod yX3_costOver, Cond.selects RX3 yX3_costOver yX3_costOver, Cond.code yX3_costOver cX3_costOver 2 (some .int), Cond.fieldLink RX3 15 "TrafficMatrix$Network" "targets" "[I", Cond.methodLink RX3 56 yX3_findRoute, Cond.instanceMethod yX3_findRoute, Cond.selects RX3 yX3_findRoute yX3_findRoute, Cond.code yX3_findRoute cX3_findRoute 7 none, Cond.fieldLink RX3 26 "TrafficMatrix$Network" "routeLinks" "[[I", Cond.fieldLink RX3 21 "TrafficMatrix$Network" "routeLengths" "[I", Cond.static yX4_slotOf, Cond.initialized RX4, Cond.code yX4_slotOf cX4_slotOf 2 (some .int), Cond.methodLink RX3 74 yX3_cheapestFrom, Cond.instanceMethod yX3_cheapestFrom, Cond.selects RX3 yX3_cheapestFrom yX3_cheapestFrom, Cond.code yX3_cheapestFrom cX3_cheapestFrom 3 (some .int)]
def wsX3_replaceMetric : List Cond := .code yX3_replaceMetric cX3_replaceMetric 4 (some .int) :: ((wsX3_replaceMetric_r1 ++ wsX3_replaceMetric_r2) ++ wsX30)
def wsX4_init_r1 : List Cond := [Cond.methodLink RX4 5 objectInit, Cond.instanceMethod objectInit, Cond.code objectInit ⟨#[0xb1]⟩ 1 none, Cond.classLink RX4 11 RX3, Cond.instantiable RX3 8, Cond.initialized RX3, Cond.fieldLink RX4 14 "TrafficMatrix" "network" "LTrafficMatrix$Network;", Cond.arrayClass .int, Cond.fieldLink RX4 18 "TrafficMatrix" "demands" "[I", Cond.classLink RX4 22 RX2, Cond.instantiable RX2 4, Cond.initialized RX2, Cond.fieldLink RX4 25 "TrafficMatrix" "measurements" "LTrafficMatrix$Measurements;", Cond.classLink RX4 29 RX0, Cond.instantiable RX0 8, Cond.initialized RX0, Cond.fieldLink RX4 32 "TrafficMatrix" "equations" "LTrafficMatrix$Equations;", Cond.classLink RX4 36 RX1, Cond.instantiable RX1 2, Cond.initialized RX1, Cond.fieldLink RX4 39 "TrafficMatrix" "estimates" "LTrafficMatrix$Estimates;", Cond.instanceMethod yX3_init, Cond.code yX3_init cX3_init 1 none, Cond.methodLink RX3 3 objectInit]
def wsX4_init_r2 : List Cond := [Cond.fieldLink RX3 9 "TrafficMatrix$Network" "sources" "[I", Cond.fieldLink RX3 15 "TrafficMatrix$Network" "targets" "[I", Cond.fieldLink RX3 18 "TrafficMatrix$Network" "metrics" "[I", Cond.fieldLink RX3 21 "TrafficMatrix$Network" "routeLengths" "[I", Cond.classLink RX3 24 "[[I", Cond.fieldLink RX3 26 "TrafficMatrix$Network" "routeLinks" "[[I", Cond.fieldLink RX3 29 "TrafficMatrix$Network" "costs" "[I", Cond.instanceMethod yX2_init, Cond.code yX2_init cX2_init 1 none, Cond.methodLink RX2 3 objectInit, Cond.fieldLink RX2 9 "TrafficMatrix$Measurements" "loads" "[I", Cond.fieldLink RX2 15 "TrafficMatrix$Measurements" "outTotals" "[I", Cond.fieldLink RX2 18 "TrafficMatrix$Measurements" "inTotals" "[I", Cond.fieldLink RX2 21 "TrafficMatrix$Measurements" "pairValues" "[I", Cond.instanceMethod yX0_init, Cond.code yX0_init cX0_init 1 none, Cond.methodLink RX0 3 objectInit, Cond.classLink RX0 9 "[[J", Cond.arrayClass .long, Cond.fieldLink RX0 11 "TrafficMatrix$Equations" "rows" "[[J", Cond.fieldLink RX0 16 "TrafficMatrix$Equations" "rowOfPivot" "[I", Cond.fieldLink RX0 20 "TrafficMatrix$Equations" "pivotOfRow" "[I", Cond.arrayClass .boolean, Cond.fieldLink RX0 23 "TrafficMatrix$Equations" "known" "[Z"]
def wsX4_init_r3 : List Cond := [Cond.instanceMethod yX1_init, Cond.code yX1_init cX1_init 1 none, Cond.methodLink RX1 3 objectInit, Cond.fieldLink RX1 9 "TrafficMatrix$Estimates" "values" "[J", Cond.fieldLink RX1 15 "TrafficMatrix$Estimates" "remembered" "[J", Cond.methodLink RX4 43 yX3_startAnew, Cond.instanceMethod yX3_startAnew, Cond.selects RX3 yX3_startAnew yX3_startAnew, Cond.code yX3_startAnew cX3_startAnew 2 none, Cond.fieldLink RX3 32 "TrafficMatrix$Network" "nodeCount" "I", Cond.fieldLink RX3 36 "TrafficMatrix$Network" "linkCount" "I", Cond.methodLink RX3 39 yJ7_fill_53178, Cond.static yJ7_fill_53178, Cond.initialized RJ7, Cond.code yJ7_fill_53178 cJ7_fill_53178 4 none, Cond.methodLink RX4 47 yX2_startAnew, Cond.instanceMethod yX2_startAnew, Cond.selects RX2 yX2_startAnew yX2_startAnew, Cond.code yX2_startAnew cX2_startAnew 1 none, Cond.methodLink RX2 24 yJ7_fill_53178]
def wsX4_init : List Cond := .code yX4_init cX4_init 1 none :: ((wsX4_init_r1 ++ (wsX4_init_r2 ++ wsX4_init_r3)) ++ wsX30 ++ wsX40 ++ wsX20 ++ wsX00 ++ wsX10)
def wsX4_reset_r1 : List Cond := [Cond.fieldLink RX4 14 "TrafficMatrix" "network" "LTrafficMatrix$Network;", Cond.fieldLink RX4 49 "TrafficMatrix$Network" "linkCount" "I", Cond.fieldLink RX4 18 "TrafficMatrix" "demands" "[I", Cond.fieldLink RX4 25 "TrafficMatrix" "measurements" "LTrafficMatrix$Measurements;", Cond.fieldLink RX4 39 "TrafficMatrix" "estimates" "LTrafficMatrix$Estimates;", Cond.methodLink RX4 43 yX3_startAnew, Cond.instanceMethod yX3_startAnew, Cond.selects RX3 yX3_startAnew yX3_startAnew, Cond.initialized RX3, Cond.code yX3_startAnew cX3_startAnew 2 none, Cond.fieldLink RX3 32 "TrafficMatrix$Network" "nodeCount" "I", Cond.fieldLink RX3 36 "TrafficMatrix$Network" "linkCount" "I", Cond.fieldLink RX3 21 "TrafficMatrix$Network" "routeLengths" "[I", Cond.methodLink RX3 39 yJ7_fill_53178, Cond.static yJ7_fill_53178, Cond.initialized RJ7, Cond.code yJ7_fill_53178 cJ7_fill_53178 4 none, Cond.methodLink RX4 53 yJ7_fill_53178, Cond.methodLink RX4 47 yX2_startAnew, Cond.instanceMethod yX2_startAnew, Cond.selects RX2 yX2_startAnew yX2_startAnew, Cond.initialized RX2, Cond.code yX2_startAnew cX2_startAnew 1 none, Cond.fieldLink RX2 9 "TrafficMatrix$Measurements" "loads" "[I"]
def wsX4_reset_r2 : List Cond := [Cond.fieldLink RX2 15 "TrafficMatrix$Measurements" "outTotals" "[I", Cond.fieldLink RX2 18 "TrafficMatrix$Measurements" "inTotals" "[I", Cond.fieldLink RX2 21 "TrafficMatrix$Measurements" "pairValues" "[I", Cond.methodLink RX2 24 yJ7_fill_53178, Cond.methodLink RX4 59 yX1_startAnew, Cond.instanceMethod yX1_startAnew, Cond.selects RX1 yX1_startAnew yX1_startAnew, Cond.initialized RX1, Cond.code yX1_startAnew cX1_startAnew 1 none, Cond.fieldLink RX1 9 "TrafficMatrix$Estimates" "values" "[J", Cond.methodLink RX1 18 yJ7_fill_d0a16, Cond.static yJ7_fill_d0a16, Cond.code yJ7_fill_d0a16 cJ7_fill_d0a16 5 none]
def wsX4_reset : List Cond := .code yX4_reset cX4_reset 3 (some .int) :: ((wsX4_reset_r1 ++ wsX4_reset_r2) ++ wsX40 ++ wsX30 ++ wsX20 ++ wsX10)
def wsX4_pairError : List Cond := .code yX4_pairError cX4_pairError 3 (some .int) :: ([.fieldLink RX4 14 "TrafficMatrix" "network" "LTrafficMatrix$Network;", .methodLink RX4 107 yX3_hasNode, .instanceMethod yX3_hasNode, .selects RX3 yX3_hasNode yX3_hasNode, .initialized RX3, .code yX3_hasNode cX3_hasNode 2 (some .boolean), .fieldLink RX3 32 "TrafficMatrix$Network" "nodeCount" "I"] ++ wsX40 ++ wsX30)
def wsX4_isMetric : List Cond := .code yX4_isMetric cX4_isMetric 1 (some .boolean) :: ([])
def wsX4_addLink_r1 : List Cond := [Cond.fieldLink RX4 14 "TrafficMatrix" "network" "LTrafficMatrix$Network;", Cond.fieldLink RX4 49 "TrafficMatrix$Network" "linkCount" "I", Cond.methodLink RX4 60 yX4_pairError, Cond.instanceMethod yX4_pairError, Cond.selects RX4 yX4_pairError yX4_pairError, Cond.initialized RX4, Cond.code yX4_pairError cX4_pairError 3 (some .int), Cond.methodLink RX4 107 yX3_hasNode, Cond.instanceMethod yX3_hasNode, Cond.selects RX3 yX3_hasNode yX3_hasNode, Cond.initialized RX3, Cond.code yX3_hasNode cX3_hasNode 2 (some .boolean), Cond.fieldLink RX3 32 "TrafficMatrix$Network" "nodeCount" "I", Cond.methodLink RX4 64 yX4_isMetric, Cond.static yX4_isMetric, Cond.code yX4_isMetric cX4_isMetric 1 (some .boolean), Cond.methodLink RX4 68 yX3_append, Cond.instanceMethod yX3_append, Cond.selects RX3 yX3_append yX3_append, Cond.code yX3_append cX3_append 5 (some .int), Cond.fieldLink RX3 36 "TrafficMatrix$Network" "linkCount" "I", Cond.fieldLink RX3 9 "TrafficMatrix$Network" "sources" "[I", Cond.fieldLink RX3 15 "TrafficMatrix$Network" "targets" "[I", Cond.fieldLink RX3 18 "TrafficMatrix$Network" "metrics" "[I"]
def wsX4_addLink_r2 : List Cond := [Cond.methodLink RX3 49 yX3_findRoutes, Cond.instanceMethod yX3_findRoutes, Cond.selects RX3 yX3_findRoutes yX3_findRoutes, Cond.code yX3_findRoutes cX3_findRoutes 3 none, Cond.methodLink RX3 52 yX3_findCostsTo, Cond.instanceMethod yX3_findCostsTo, Cond.selects RX3 yX3_findCostsTo yX3_findCostsTo, Cond.code yX3_findCostsTo cX3_findCostsTo 5 none, Cond.fieldLink RX3 29 "TrafficMatrix$Network" "costs" "[I", Cond.constant RX3 60 (1000000), Cond.methodLink RX3 65 Lib.Math.min.name, Cond.static Lib.Math.min.name, Cond.initialized "java/lang/Math", Cond.code Lib.Math.min.name Lib.Math.min.code 2 (some .int), Cond.methodLink RX3 39 yJ7_fill_53178, Cond.static yJ7_fill_53178, Cond.initialized RJ7, Cond.code yJ7_fill_53178 cJ7_fill_53178 4 none, Cond.methodLink RX3 61 yX3_costOver, Cond.instanceMethod yX3_costOver, Cond.selects RX3 yX3_costOver yX3_costOver, Cond.code yX3_costOver cX3_costOver 2 (some .int), Cond.methodLink RX3 56 yX3_findRoute, Cond.instanceMethod yX3_findRoute]
def wsX4_addLink_r3 : List Cond := [Cond.selects RX3 yX3_findRoute yX3_findRoute, Cond.code yX3_findRoute cX3_findRoute 7 none, Cond.fieldLink RX3 26 "TrafficMatrix$Network" "routeLinks" "[[I", Cond.fieldLink RX3 21 "TrafficMatrix$Network" "routeLengths" "[I", Cond.static yX4_slotOf, Cond.code yX4_slotOf cX4_slotOf 2 (some .int), Cond.methodLink RX3 74 yX3_cheapestFrom, Cond.instanceMethod yX3_cheapestFrom, Cond.selects RX3 yX3_cheapestFrom yX3_cheapestFrom, Cond.code yX3_cheapestFrom cX3_cheapestFrom 3 (some .int)]
def wsX4_addLink : List Cond := .code yX4_addLink cX4_addLink 5 (some .int) :: ((wsX4_addLink_r1 ++ (wsX4_addLink_r2 ++ wsX4_addLink_r3)) ++ wsX40 ++ wsX30)
def wsX4_setMetric_r1 : List Cond := [Cond.fieldLink RX4 14 "TrafficMatrix" "network" "LTrafficMatrix$Network;", Cond.methodLink RX4 72 yX3_hasLink, Cond.instanceMethod yX3_hasLink, Cond.selects RX3 yX3_hasLink yX3_hasLink, Cond.initialized RX3, Cond.code yX3_hasLink cX3_hasLink 2 (some .boolean), Cond.fieldLink RX3 36 "TrafficMatrix$Network" "linkCount" "I", Cond.methodLink RX4 64 yX4_isMetric, Cond.static yX4_isMetric, Cond.initialized RX4, Cond.code yX4_isMetric cX4_isMetric 1 (some .boolean), Cond.methodLink RX4 75 yX3_replaceMetric, Cond.instanceMethod yX3_replaceMetric, Cond.selects RX3 yX3_replaceMetric yX3_replaceMetric, Cond.code yX3_replaceMetric cX3_replaceMetric 4 (some .int), Cond.fieldLink RX3 18 "TrafficMatrix$Network" "metrics" "[I", Cond.methodLink RX3 49 yX3_findRoutes, Cond.instanceMethod yX3_findRoutes, Cond.selects RX3 yX3_findRoutes yX3_findRoutes, Cond.code yX3_findRoutes cX3_findRoutes 3 none, Cond.fieldLink RX3 32 "TrafficMatrix$Network" "nodeCount" "I", Cond.methodLink RX3 52 yX3_findCostsTo, Cond.instanceMethod yX3_findCostsTo, Cond.selects RX3 yX3_findCostsTo yX3_findCostsTo]
def wsX4_setMetric_r2 : List Cond := [Cond.code yX3_findCostsTo cX3_findCostsTo 5 none, Cond.fieldLink RX3 29 "TrafficMatrix$Network" "costs" "[I", Cond.constant RX3 60 (1000000), Cond.fieldLink RX3 9 "TrafficMatrix$Network" "sources" "[I", Cond.methodLink RX3 65 Lib.Math.min.name, Cond.static Lib.Math.min.name, Cond.initialized "java/lang/Math", Cond.code Lib.Math.min.name Lib.Math.min.code 2 (some .int), Cond.methodLink RX3 39 yJ7_fill_53178, Cond.static yJ7_fill_53178, Cond.initialized RJ7, Cond.code yJ7_fill_53178 cJ7_fill_53178 4 none, Cond.methodLink RX3 61 yX3_costOver, Cond.instanceMethod yX3_costOver, Cond.selects RX3 yX3_costOver yX3_costOver, Cond.code yX3_costOver cX3_costOver 2 (some .int), Cond.fieldLink RX3 15 "TrafficMatrix$Network" "targets" "[I", Cond.methodLink RX3 56 yX3_findRoute, Cond.instanceMethod yX3_findRoute, Cond.selects RX3 yX3_findRoute yX3_findRoute, Cond.code yX3_findRoute cX3_findRoute 7 none, Cond.fieldLink RX3 26 "TrafficMatrix$Network" "routeLinks" "[[I", Cond.fieldLink RX3 21 "TrafficMatrix$Network" "routeLengths" "[I", Cond.static yX4_slotOf]
def wsX4_setMetric_r3 : List Cond := [Cond.code yX4_slotOf cX4_slotOf 2 (some .int), Cond.methodLink RX3 74 yX3_cheapestFrom, Cond.instanceMethod yX3_cheapestFrom, Cond.selects RX3 yX3_cheapestFrom yX3_cheapestFrom, Cond.code yX3_cheapestFrom cX3_cheapestFrom 3 (some .int)]
def wsX4_setMetric : List Cond := .code yX4_setMetric cX4_setMetric 3 (some .int) :: ((wsX4_setMetric_r1 ++ (wsX4_setMetric_r2 ++ wsX4_setMetric_r3)) ++ wsX40 ++ wsX30)
def wsX4_routeError : List Cond := .code yX4_routeError cX4_routeError 4 (some .int) :: ([.fieldLink RX4 14 "TrafficMatrix" "network" "LTrafficMatrix$Network;", .methodLink RX4 60 yX4_pairError, .instanceMethod yX4_pairError, .selects RX4 yX4_pairError yX4_pairError, .initialized RX4, .code yX4_pairError cX4_pairError 3 (some .int), .methodLink RX4 107 yX3_hasNode, .instanceMethod yX3_hasNode, .selects RX3 yX3_hasNode yX3_hasNode, .initialized RX3, .code yX3_hasNode cX3_hasNode 2 (some .boolean), .fieldLink RX3 32 "TrafficMatrix$Network" "nodeCount" "I", .methodLink RX4 84 yX4_slotOf, .static yX4_slotOf, .code yX4_slotOf cX4_slotOf 2 (some .int), .methodLink RX4 139 yX3_hasRoute, .instanceMethod yX3_hasRoute, .selects RX3 yX3_hasRoute yX3_hasRoute, .code yX3_hasRoute cX3_hasRoute 2 (some .boolean), .fieldLink RX3 21 "TrafficMatrix$Network" "routeLengths" "[I"] ++ wsX40 ++ wsX30)
def wsX4_routeLength_r1 : List Cond := [Cond.fieldLink RX4 14 "TrafficMatrix" "network" "LTrafficMatrix$Network;", Cond.fieldLink RX4 81 "TrafficMatrix$Network" "routeLengths" "[I", Cond.methodLink RX4 78 yX4_routeError, Cond.instanceMethod yX4_routeError, Cond.selects RX4 yX4_routeError yX4_routeError, Cond.initialized RX4, Cond.code yX4_routeError cX4_routeError 4 (some .int), Cond.methodLink RX4 60 yX4_pairError, Cond.instanceMethod yX4_pairError, Cond.selects RX4 yX4_pairError yX4_pairError, Cond.code yX4_pairError cX4_pairError 3 (some .int), Cond.methodLink RX4 107 yX3_hasNode, Cond.instanceMethod yX3_hasNode, Cond.selects RX3 yX3_hasNode yX3_hasNode, Cond.initialized RX3, Cond.code yX3_hasNode cX3_hasNode 2 (some .boolean), Cond.fieldLink RX3 32 "TrafficMatrix$Network" "nodeCount" "I", Cond.methodLink RX4 84 yX4_slotOf, Cond.static yX4_slotOf, Cond.code yX4_slotOf cX4_slotOf 2 (some .int), Cond.methodLink RX4 139 yX3_hasRoute, Cond.instanceMethod yX3_hasRoute, Cond.selects RX3 yX3_hasRoute yX3_hasRoute, Cond.code yX3_hasRoute cX3_hasRoute 2 (some .boolean)]
def wsX4_routeLength_r2 : List Cond := [Cond.fieldLink RX3 21 "TrafficMatrix$Network" "routeLengths" "[I"]
def wsX4_routeLength : List Cond := .code yX4_routeLength cX4_routeLength 4 (some .int) :: ((wsX4_routeLength_r1 ++ wsX4_routeLength_r2) ++ wsX40 ++ wsX30)
def wsX4_routeLink_r1 : List Cond := [Cond.fieldLink RX4 14 "TrafficMatrix" "network" "LTrafficMatrix$Network;", Cond.fieldLink RX4 81 "TrafficMatrix$Network" "routeLengths" "[I", Cond.fieldLink RX4 87 "TrafficMatrix$Network" "routeLinks" "[[I", Cond.methodLink RX4 78 yX4_routeError, Cond.instanceMethod yX4_routeError, Cond.selects RX4 yX4_routeError yX4_routeError, Cond.initialized RX4, Cond.code yX4_routeError cX4_routeError 4 (some .int), Cond.methodLink RX4 60 yX4_pairError, Cond.instanceMethod yX4_pairError, Cond.selects RX4 yX4_pairError yX4_pairError, Cond.code yX4_pairError cX4_pairError 3 (some .int), Cond.methodLink RX4 107 yX3_hasNode, Cond.instanceMethod yX3_hasNode, Cond.selects RX3 yX3_hasNode yX3_hasNode, Cond.initialized RX3, Cond.code yX3_hasNode cX3_hasNode 2 (some .boolean), Cond.fieldLink RX3 32 "TrafficMatrix$Network" "nodeCount" "I", Cond.methodLink RX4 84 yX4_slotOf, Cond.static yX4_slotOf, Cond.code yX4_slotOf cX4_slotOf 2 (some .int), Cond.methodLink RX4 139 yX3_hasRoute, Cond.instanceMethod yX3_hasRoute, Cond.selects RX3 yX3_hasRoute yX3_hasRoute]
def wsX4_routeLink_r2 : List Cond := [Cond.code yX3_hasRoute cX3_hasRoute 2 (some .boolean), Cond.fieldLink RX3 21 "TrafficMatrix$Network" "routeLengths" "[I"]
def wsX4_routeLink : List Cond := .code yX4_routeLink cX4_routeLink 6 (some .int) :: ((wsX4_routeLink_r1 ++ wsX4_routeLink_r2) ++ wsX40 ++ wsX30)
def wsX4_setDemand : List Cond := .code yX4_setDemand cX4_setDemand 7 (some .int) :: ([.fieldLink RX4 18 "TrafficMatrix" "demands" "[I", .methodLink RX4 60 yX4_pairError, .instanceMethod yX4_pairError, .selects RX4 yX4_pairError yX4_pairError, .initialized RX4, .code yX4_pairError cX4_pairError 3 (some .int), .fieldLink RX4 14 "TrafficMatrix" "network" "LTrafficMatrix$Network;", .methodLink RX4 107 yX3_hasNode, .instanceMethod yX3_hasNode, .selects RX3 yX3_hasNode yX3_hasNode, .initialized RX3, .code yX3_hasNode cX3_hasNode 2 (some .boolean), .fieldLink RX3 32 "TrafficMatrix$Network" "nodeCount" "I", .methodLink RX4 84 yX4_slotOf, .static yX4_slotOf, .code yX4_slotOf cX4_slotOf 2 (some .int)] ++ wsX40 ++ wsX30)
def wsX4_carriedLoad : List Cond := .code yX4_carriedLoad cX4_carriedLoad 2 (some .int) :: ([.fieldLink RX4 14 "TrafficMatrix" "network" "LTrafficMatrix$Network;", .fieldLink RX4 18 "TrafficMatrix" "demands" "[I", .methodLink RX4 72 yX3_hasLink, .instanceMethod yX3_hasLink, .selects RX3 yX3_hasLink yX3_hasLink, .initialized RX3, .code yX3_hasLink cX3_hasLink 2 (some .boolean), .fieldLink RX3 36 "TrafficMatrix$Network" "linkCount" "I", .methodLink RX4 91 yX3_loadOf, .instanceMethod yX3_loadOf, .selects RX3 yX3_loadOf yX3_loadOf, .code yX3_loadOf cX3_loadOf 5 (some .int), .methodLink RX3 45 yX3_routeUses, .instanceMethod yX3_routeUses, .selects RX3 yX3_routeUses yX3_routeUses, .code yX3_routeUses cX3_routeUses 4 (some .boolean), .fieldLink RX3 21 "TrafficMatrix$Network" "routeLengths" "[I", .fieldLink RX3 26 "TrafficMatrix$Network" "routeLinks" "[[I"] ++ wsX40 ++ wsX30)
def wsX4_measure_r1 : List Cond := [Cond.fieldLink RX4 25 "TrafficMatrix" "measurements" "LTrafficMatrix$Measurements;", Cond.fieldLink RX4 14 "TrafficMatrix" "network" "LTrafficMatrix$Network;", Cond.fieldLink RX4 18 "TrafficMatrix" "demands" "[I", Cond.methodLink RX4 95 yX2_take, Cond.instanceMethod yX2_take, Cond.selects RX2 yX2_take yX2_take, Cond.initialized RX2, Cond.code yX2_take cX2_take 4 none, Cond.fieldLink RX2 30 "TrafficMatrix$Network" "linkCount" "I", Cond.fieldLink RX2 9 "TrafficMatrix$Measurements" "loads" "[I", Cond.fieldLink RX2 15 "TrafficMatrix$Measurements" "outTotals" "[I", Cond.fieldLink RX2 18 "TrafficMatrix$Measurements" "inTotals" "[I", Cond.methodLink RX2 36 yX3_loadOf, Cond.instanceMethod yX3_loadOf, Cond.selects RX3 yX3_loadOf yX3_loadOf, Cond.initialized RX3, Cond.code yX3_loadOf cX3_loadOf 5 (some .int), Cond.methodLink RX3 45 yX3_routeUses, Cond.instanceMethod yX3_routeUses, Cond.selects RX3 yX3_routeUses yX3_routeUses, Cond.code yX3_routeUses cX3_routeUses 4 (some .boolean), Cond.fieldLink RX3 21 "TrafficMatrix$Network" "routeLengths" "[I", Cond.fieldLink RX3 26 "TrafficMatrix$Network" "routeLinks" "[[I", Cond.methodLink RX2 24 yJ7_fill_53178]
def wsX4_measure_r2 : List Cond := [Cond.static yJ7_fill_53178, Cond.initialized RJ7, Cond.code yJ7_fill_53178 cJ7_fill_53178 4 none, Cond.methodLink RX2 40 yX3_hasRoute, Cond.instanceMethod yX3_hasRoute, Cond.selects RX3 yX3_hasRoute yX3_hasRoute, Cond.code yX3_hasRoute cX3_hasRoute 2 (some .boolean), Cond.methodLink RX4 99 yX2_sumOfOutTotals, Cond.instanceMethod yX2_sumOfOutTotals, Cond.selects RX2 yX2_sumOfOutTotals yX2_sumOfOutTotals, Cond.code yX2_sumOfOutTotals cX2_sumOfOutTotals 3 (some .int)]
def wsX4_measure : List Cond := .code yX4_measure cX4_measure 1 (some .int) :: ((wsX4_measure_r1 ++ wsX4_measure_r2) ++ wsX40 ++ wsX30 ++ wsX20)
def wsX4_setMeasuredLoad : List Cond := .code yX4_setMeasuredLoad cX4_setMeasuredLoad 4 (some .int) :: ([.fieldLink RX4 14 "TrafficMatrix" "network" "LTrafficMatrix$Network;", .constant RX4 103 (199980), .fieldLink RX4 25 "TrafficMatrix" "measurements" "LTrafficMatrix$Measurements;", .fieldLink RX4 104 "TrafficMatrix$Measurements" "loads" "[I", .methodLink RX4 72 yX3_hasLink, .instanceMethod yX3_hasLink, .selects RX3 yX3_hasLink yX3_hasLink, .initialized RX3, .code yX3_hasLink cX3_hasLink 2 (some .boolean), .fieldLink RX3 36 "TrafficMatrix$Network" "linkCount" "I"] ++ wsX40 ++ wsX20 ++ wsX30)
def wsX4_measuredLoad : List Cond := .code yX4_measuredLoad cX4_measuredLoad 2 (some .int) :: ([.fieldLink RX4 14 "TrafficMatrix" "network" "LTrafficMatrix$Network;", .fieldLink RX4 25 "TrafficMatrix" "measurements" "LTrafficMatrix$Measurements;", .fieldLink RX4 104 "TrafficMatrix$Measurements" "loads" "[I", .methodLink RX4 72 yX3_hasLink, .instanceMethod yX3_hasLink, .selects RX3 yX3_hasLink yX3_hasLink, .initialized RX3, .code yX3_hasLink cX3_hasLink 2 (some .boolean), .fieldLink RX3 36 "TrafficMatrix$Network" "linkCount" "I"] ++ wsX40 ++ wsX20 ++ wsX30)
def wsX4_outTotal : List Cond := .code yX4_outTotal cX4_outTotal 2 (some .int) :: ([.fieldLink RX4 14 "TrafficMatrix" "network" "LTrafficMatrix$Network;", .fieldLink RX4 25 "TrafficMatrix" "measurements" "LTrafficMatrix$Measurements;", .fieldLink RX4 110 "TrafficMatrix$Measurements" "outTotals" "[I", .methodLink RX4 107 yX3_hasNode, .instanceMethod yX3_hasNode, .selects RX3 yX3_hasNode yX3_hasNode, .initialized RX3, .code yX3_hasNode cX3_hasNode 2 (some .boolean), .fieldLink RX3 32 "TrafficMatrix$Network" "nodeCount" "I"] ++ wsX40 ++ wsX20 ++ wsX30)
def wsX4_inTotal : List Cond := .code yX4_inTotal cX4_inTotal 2 (some .int) :: ([.fieldLink RX4 14 "TrafficMatrix" "network" "LTrafficMatrix$Network;", .fieldLink RX4 25 "TrafficMatrix" "measurements" "LTrafficMatrix$Measurements;", .fieldLink RX4 113 "TrafficMatrix$Measurements" "inTotals" "[I", .methodLink RX4 107 yX3_hasNode, .instanceMethod yX3_hasNode, .selects RX3 yX3_hasNode yX3_hasNode, .initialized RX3, .code yX3_hasNode cX3_hasNode 2 (some .boolean), .fieldLink RX3 32 "TrafficMatrix$Network" "nodeCount" "I"] ++ wsX40 ++ wsX20 ++ wsX30)
def wsX4_measurePair_r1 : List Cond := [Cond.fieldLink RX4 25 "TrafficMatrix" "measurements" "LTrafficMatrix$Measurements;", Cond.fieldLink RX4 116 "TrafficMatrix$Measurements" "pairValues" "[I", Cond.fieldLink RX4 18 "TrafficMatrix" "demands" "[I", Cond.methodLink RX4 78 yX4_routeError, Cond.instanceMethod yX4_routeError, Cond.selects RX4 yX4_routeError yX4_routeError, Cond.initialized RX4, Cond.code yX4_routeError cX4_routeError 4 (some .int), Cond.fieldLink RX4 14 "TrafficMatrix" "network" "LTrafficMatrix$Network;", Cond.methodLink RX4 60 yX4_pairError, Cond.instanceMethod yX4_pairError, Cond.selects RX4 yX4_pairError yX4_pairError, Cond.code yX4_pairError cX4_pairError 3 (some .int), Cond.methodLink RX4 107 yX3_hasNode, Cond.instanceMethod yX3_hasNode, Cond.selects RX3 yX3_hasNode yX3_hasNode, Cond.initialized RX3, Cond.code yX3_hasNode cX3_hasNode 2 (some .boolean), Cond.fieldLink RX3 32 "TrafficMatrix$Network" "nodeCount" "I", Cond.methodLink RX4 84 yX4_slotOf, Cond.static yX4_slotOf, Cond.code yX4_slotOf cX4_slotOf 2 (some .int), Cond.methodLink RX4 139 yX3_hasRoute, Cond.instanceMethod yX3_hasRoute]
def wsX4_measurePair_r2 : List Cond := [Cond.selects RX3 yX3_hasRoute yX3_hasRoute, Cond.code yX3_hasRoute cX3_hasRoute 2 (some .boolean), Cond.fieldLink RX3 21 "TrafficMatrix$Network" "routeLengths" "[I"]
def wsX4_measurePair : List Cond := .code yX4_measurePair cX4_measurePair 5 (some .int) :: ((wsX4_measurePair_r1 ++ wsX4_measurePair_r2) ++ wsX40 ++ wsX20 ++ wsX30)
def wsX4_forgetPair : List Cond := .code yX4_forgetPair cX4_forgetPair 6 (some .int) :: ([.fieldLink RX4 25 "TrafficMatrix" "measurements" "LTrafficMatrix$Measurements;", .fieldLink RX4 116 "TrafficMatrix$Measurements" "pairValues" "[I", .methodLink RX4 60 yX4_pairError, .instanceMethod yX4_pairError, .selects RX4 yX4_pairError yX4_pairError, .initialized RX4, .code yX4_pairError cX4_pairError 3 (some .int), .fieldLink RX4 14 "TrafficMatrix" "network" "LTrafficMatrix$Network;", .methodLink RX4 107 yX3_hasNode, .instanceMethod yX3_hasNode, .selects RX3 yX3_hasNode yX3_hasNode, .initialized RX3, .code yX3_hasNode cX3_hasNode 2 (some .boolean), .fieldLink RX3 32 "TrafficMatrix$Network" "nodeCount" "I", .methodLink RX4 84 yX4_slotOf, .static yX4_slotOf, .code yX4_slotOf cX4_slotOf 2 (some .int), .methodLink RX4 119 yX2_hasPair, .instanceMethod yX2_hasPair, .selects RX2 yX2_hasPair yX2_hasPair, .initialized RX2, .code yX2_hasPair cX2_hasPair 2 (some .boolean), .fieldLink RX2 21 "TrafficMatrix$Measurements" "pairValues" "[I"] ++ wsX40 ++ wsX20 ++ wsX30)
def wsX4_rank_r1 : List Cond := [Cond.fieldLink RX4 32 "TrafficMatrix" "equations" "LTrafficMatrix$Equations;", Cond.fieldLink RX4 14 "TrafficMatrix" "network" "LTrafficMatrix$Network;", Cond.fieldLink RX4 25 "TrafficMatrix" "measurements" "LTrafficMatrix$Measurements;", Cond.fieldLink RX4 126 "TrafficMatrix$Equations" "knownCount" "I", Cond.fieldLink RX4 129 "TrafficMatrix$Equations" "pivotCount" "I", Cond.methodLink RX4 122 yX0_solve, Cond.instanceMethod yX0_solve, Cond.selects RX0 yX0_solve yX0_solve, Cond.initialized RX0, Cond.code yX0_solve cX0_solve 4 none, Cond.fieldLink RX0 27 "TrafficMatrix$Network" "linkCount" "I", Cond.fieldLink RX0 33 "TrafficMatrix$Equations" "rowCount" "I", Cond.methodLink RX0 36 yX0_findKnown, Cond.instanceMethod yX0_findKnown, Cond.selects RX0 yX0_findKnown yX0_findKnown, Cond.code yX0_findKnown cX0_findKnown 4 none, Cond.fieldLink RX0 47 "TrafficMatrix$Equations" "knownCount" "I", Cond.fieldLink RX0 23 "TrafficMatrix$Equations" "known" "[Z", Cond.methodLink RX0 50 yX3_hasRoute, Cond.instanceMethod yX3_hasRoute, Cond.selects RX3 yX3_hasRoute yX3_hasRoute, Cond.initialized RX3, Cond.code yX3_hasRoute cX3_hasRoute 2 (some .boolean), Cond.fieldLink RX3 21 "TrafficMatrix$Network" "routeLengths" "[I"]
def wsX4_rank_r2 : List Cond := [Cond.methodLink RX0 54 yX2_hasPair, Cond.instanceMethod yX2_hasPair, Cond.selects RX2 yX2_hasPair yX2_hasPair, Cond.initialized RX2, Cond.code yX2_hasPair cX2_hasPair 2 (some .boolean), Cond.fieldLink RX2 21 "TrafficMatrix$Measurements" "pairValues" "[I", Cond.methodLink RX0 40 yX0_fillRow, Cond.instanceMethod yX0_fillRow, Cond.selects RX0 yX0_fillRow yX0_fillRow, Cond.code yX0_fillRow cX0_fillRow 6 none, Cond.fieldLink RX0 11 "TrafficMatrix$Equations" "rows" "[[J", Cond.fieldLink RX0 65 "TrafficMatrix$Measurements" "loads" "[I", Cond.fieldLink RX0 72 "TrafficMatrix$Measurements" "pairValues" "[I", Cond.methodLink RX0 59 yJ7_fill_d0a16, Cond.static yJ7_fill_d0a16, Cond.initialized RJ7, Cond.code yJ7_fill_d0a16 cJ7_fill_d0a16 5 none, Cond.methodLink RX0 68 yX3_routeUses, Cond.instanceMethod yX3_routeUses, Cond.selects RX3 yX3_routeUses yX3_routeUses, Cond.code yX3_routeUses cX3_routeUses 4 (some .boolean), Cond.fieldLink RX3 26 "TrafficMatrix$Network" "routeLinks" "[[I", Cond.methodLink RX0 44 yX0_eliminate, Cond.instanceMethod yX0_eliminate]
def wsX4_rank_r3 : List Cond := [Cond.selects RX0 yX0_eliminate yX0_eliminate, Cond.code yX0_eliminate cX0_eliminate 3 none, Cond.fieldLink RX0 75 "TrafficMatrix$Equations" "pivotCount" "I", Cond.fieldLink RX0 78 "TrafficMatrix$Equations" "pivot" "J", Cond.fieldLink RX0 16 "TrafficMatrix$Equations" "rowOfPivot" "[I", Cond.fieldLink RX0 20 "TrafficMatrix$Equations" "pivotOfRow" "[I", Cond.methodLink RX0 82 yJ7_fill_53178, Cond.static yJ7_fill_53178, Cond.code yJ7_fill_53178 cJ7_fill_53178 4 none, Cond.methodLink RX0 85 yX0_findPivotRow, Cond.instanceMethod yX0_findPivotRow, Cond.selects RX0 yX0_findPivotRow yX0_findPivotRow, Cond.code yX0_findPivotRow cX0_findPivotRow 3 (some .int), Cond.methodLink RX0 89 yX0_clearColumn, Cond.instanceMethod yX0_clearColumn, Cond.selects RX0 yX0_clearColumn yX0_clearColumn, Cond.code yX0_clearColumn cX0_clearColumn 6 none, Cond.methodLink RX0 93 yX0_combine, Cond.instanceMethod yX0_combine, Cond.selects RX0 yX0_combine yX0_combine, Cond.code yX0_combine cX0_combine 9 none, Cond.methodLink RX0 97 yX0_quotient, Cond.static yX0_quotient, Cond.code yX0_quotient cX0_quotient 4 (some .long)]
def wsX4_rank : List Cond := .code yX4_rank cX4_rank 1 (some .int) :: ((wsX4_rank_r1 ++ (wsX4_rank_r2 ++ wsX4_rank_r3)) ++ wsX40 ++ wsX00 ++ wsX30 ++ wsX20)
def wsX4_isConsistent_r1 : List Cond := [Cond.fieldLink RX4 32 "TrafficMatrix" "equations" "LTrafficMatrix$Equations;", Cond.fieldLink RX4 14 "TrafficMatrix" "network" "LTrafficMatrix$Network;", Cond.fieldLink RX4 25 "TrafficMatrix" "measurements" "LTrafficMatrix$Measurements;", Cond.methodLink RX4 122 yX0_solve, Cond.instanceMethod yX0_solve, Cond.selects RX0 yX0_solve yX0_solve, Cond.initialized RX0, Cond.code yX0_solve cX0_solve 4 none, Cond.fieldLink RX0 27 "TrafficMatrix$Network" "linkCount" "I", Cond.fieldLink RX0 33 "TrafficMatrix$Equations" "rowCount" "I", Cond.methodLink RX0 36 yX0_findKnown, Cond.instanceMethod yX0_findKnown, Cond.selects RX0 yX0_findKnown yX0_findKnown, Cond.code yX0_findKnown cX0_findKnown 4 none, Cond.fieldLink RX0 47 "TrafficMatrix$Equations" "knownCount" "I", Cond.fieldLink RX0 23 "TrafficMatrix$Equations" "known" "[Z", Cond.methodLink RX0 50 yX3_hasRoute, Cond.instanceMethod yX3_hasRoute, Cond.selects RX3 yX3_hasRoute yX3_hasRoute, Cond.initialized RX3, Cond.code yX3_hasRoute cX3_hasRoute 2 (some .boolean), Cond.fieldLink RX3 21 "TrafficMatrix$Network" "routeLengths" "[I", Cond.methodLink RX0 54 yX2_hasPair, Cond.instanceMethod yX2_hasPair]
def wsX4_isConsistent_r2 : List Cond := [Cond.selects RX2 yX2_hasPair yX2_hasPair, Cond.initialized RX2, Cond.code yX2_hasPair cX2_hasPair 2 (some .boolean), Cond.fieldLink RX2 21 "TrafficMatrix$Measurements" "pairValues" "[I", Cond.methodLink RX0 40 yX0_fillRow, Cond.instanceMethod yX0_fillRow, Cond.selects RX0 yX0_fillRow yX0_fillRow, Cond.code yX0_fillRow cX0_fillRow 6 none, Cond.fieldLink RX0 11 "TrafficMatrix$Equations" "rows" "[[J", Cond.fieldLink RX0 65 "TrafficMatrix$Measurements" "loads" "[I", Cond.fieldLink RX0 72 "TrafficMatrix$Measurements" "pairValues" "[I", Cond.methodLink RX0 59 yJ7_fill_d0a16, Cond.static yJ7_fill_d0a16, Cond.initialized RJ7, Cond.code yJ7_fill_d0a16 cJ7_fill_d0a16 5 none, Cond.methodLink RX0 68 yX3_routeUses, Cond.instanceMethod yX3_routeUses, Cond.selects RX3 yX3_routeUses yX3_routeUses, Cond.code yX3_routeUses cX3_routeUses 4 (some .boolean), Cond.fieldLink RX3 26 "TrafficMatrix$Network" "routeLinks" "[[I", Cond.methodLink RX0 44 yX0_eliminate, Cond.instanceMethod yX0_eliminate, Cond.selects RX0 yX0_eliminate yX0_eliminate, Cond.code yX0_eliminate cX0_eliminate 3 none]
def wsX4_isConsistent_r3 : List Cond := [Cond.fieldLink RX0 75 "TrafficMatrix$Equations" "pivotCount" "I", Cond.fieldLink RX0 78 "TrafficMatrix$Equations" "pivot" "J", Cond.fieldLink RX0 16 "TrafficMatrix$Equations" "rowOfPivot" "[I", Cond.fieldLink RX0 20 "TrafficMatrix$Equations" "pivotOfRow" "[I", Cond.methodLink RX0 82 yJ7_fill_53178, Cond.static yJ7_fill_53178, Cond.code yJ7_fill_53178 cJ7_fill_53178 4 none, Cond.methodLink RX0 85 yX0_findPivotRow, Cond.instanceMethod yX0_findPivotRow, Cond.selects RX0 yX0_findPivotRow yX0_findPivotRow, Cond.code yX0_findPivotRow cX0_findPivotRow 3 (some .int), Cond.methodLink RX0 89 yX0_clearColumn, Cond.instanceMethod yX0_clearColumn, Cond.selects RX0 yX0_clearColumn yX0_clearColumn, Cond.code yX0_clearColumn cX0_clearColumn 6 none, Cond.methodLink RX0 93 yX0_combine, Cond.instanceMethod yX0_combine, Cond.selects RX0 yX0_combine yX0_combine, Cond.code yX0_combine cX0_combine 9 none, Cond.methodLink RX0 97 yX0_quotient, Cond.static yX0_quotient, Cond.code yX0_quotient cX0_quotient 4 (some .long), Cond.methodLink RX4 132 yX0_haveSolution, Cond.instanceMethod yX0_haveSolution]
def wsX4_isConsistent_r4 : List Cond := [Cond.selects RX0 yX0_haveSolution yX0_haveSolution, Cond.code yX0_haveSolution cX0_haveSolution 2 (some .boolean)]
def wsX4_isConsistent : List Cond := .code yX4_isConsistent cX4_isConsistent 1 (some .int) :: ((wsX4_isConsistent_r1 ++ (wsX4_isConsistent_r2 ++ (wsX4_isConsistent_r3 ++ wsX4_isConsistent_r4))) ++ wsX40 ++ wsX30 ++ wsX00 ++ wsX20)
def wsX4_isIdentifiable_r1 : List Cond := [Cond.fieldLink RX4 32 "TrafficMatrix" "equations" "LTrafficMatrix$Equations;", Cond.fieldLink RX4 14 "TrafficMatrix" "network" "LTrafficMatrix$Network;", Cond.fieldLink RX4 25 "TrafficMatrix" "measurements" "LTrafficMatrix$Measurements;", Cond.methodLink RX4 78 yX4_routeError, Cond.instanceMethod yX4_routeError, Cond.selects RX4 yX4_routeError yX4_routeError, Cond.initialized RX4, Cond.code yX4_routeError cX4_routeError 4 (some .int), Cond.methodLink RX4 60 yX4_pairError, Cond.instanceMethod yX4_pairError, Cond.selects RX4 yX4_pairError yX4_pairError, Cond.code yX4_pairError cX4_pairError 3 (some .int), Cond.methodLink RX4 107 yX3_hasNode, Cond.instanceMethod yX3_hasNode, Cond.selects RX3 yX3_hasNode yX3_hasNode, Cond.initialized RX3, Cond.code yX3_hasNode cX3_hasNode 2 (some .boolean), Cond.fieldLink RX3 32 "TrafficMatrix$Network" "nodeCount" "I", Cond.methodLink RX4 84 yX4_slotOf, Cond.static yX4_slotOf, Cond.code yX4_slotOf cX4_slotOf 2 (some .int), Cond.methodLink RX4 139 yX3_hasRoute, Cond.instanceMethod yX3_hasRoute, Cond.selects RX3 yX3_hasRoute yX3_hasRoute]
def wsX4_isIdentifiable_r2 : List Cond := [Cond.code yX3_hasRoute cX3_hasRoute 2 (some .boolean), Cond.fieldLink RX3 21 "TrafficMatrix$Network" "routeLengths" "[I", Cond.methodLink RX4 122 yX0_solve, Cond.instanceMethod yX0_solve, Cond.selects RX0 yX0_solve yX0_solve, Cond.initialized RX0, Cond.code yX0_solve cX0_solve 4 none, Cond.fieldLink RX0 27 "TrafficMatrix$Network" "linkCount" "I", Cond.fieldLink RX0 33 "TrafficMatrix$Equations" "rowCount" "I", Cond.methodLink RX0 36 yX0_findKnown, Cond.instanceMethod yX0_findKnown, Cond.selects RX0 yX0_findKnown yX0_findKnown, Cond.code yX0_findKnown cX0_findKnown 4 none, Cond.fieldLink RX0 47 "TrafficMatrix$Equations" "knownCount" "I", Cond.fieldLink RX0 23 "TrafficMatrix$Equations" "known" "[Z", Cond.methodLink RX0 50 yX3_hasRoute, Cond.methodLink RX0 54 yX2_hasPair, Cond.instanceMethod yX2_hasPair, Cond.selects RX2 yX2_hasPair yX2_hasPair, Cond.initialized RX2, Cond.code yX2_hasPair cX2_hasPair 2 (some .boolean), Cond.fieldLink RX2 21 "TrafficMatrix$Measurements" "pairValues" "[I", Cond.methodLink RX0 40 yX0_fillRow, Cond.instanceMethod yX0_fillRow]
def wsX4_isIdentifiable_r3 : List Cond := [Cond.selects RX0 yX0_fillRow yX0_fillRow, Cond.code yX0_fillRow cX0_fillRow 6 none, Cond.fieldLink RX0 11 "TrafficMatrix$Equations" "rows" "[[J", Cond.fieldLink RX0 65 "TrafficMatrix$Measurements" "loads" "[I", Cond.fieldLink RX0 72 "TrafficMatrix$Measurements" "pairValues" "[I", Cond.methodLink RX0 59 yJ7_fill_d0a16, Cond.static yJ7_fill_d0a16, Cond.initialized RJ7, Cond.code yJ7_fill_d0a16 cJ7_fill_d0a16 5 none, Cond.methodLink RX0 68 yX3_routeUses, Cond.instanceMethod yX3_routeUses, Cond.selects RX3 yX3_routeUses yX3_routeUses, Cond.code yX3_routeUses cX3_routeUses 4 (some .boolean), Cond.fieldLink RX3 26 "TrafficMatrix$Network" "routeLinks" "[[I", Cond.methodLink RX0 44 yX0_eliminate, Cond.instanceMethod yX0_eliminate, Cond.selects RX0 yX0_eliminate yX0_eliminate, Cond.code yX0_eliminate cX0_eliminate 3 none, Cond.fieldLink RX0 75 "TrafficMatrix$Equations" "pivotCount" "I", Cond.fieldLink RX0 78 "TrafficMatrix$Equations" "pivot" "J", Cond.fieldLink RX0 16 "TrafficMatrix$Equations" "rowOfPivot" "[I", Cond.fieldLink RX0 20 "TrafficMatrix$Equations" "pivotOfRow" "[I", Cond.methodLink RX0 82 yJ7_fill_53178, Cond.static yJ7_fill_53178]
def wsX4_isIdentifiable_r4 : List Cond := [Cond.code yJ7_fill_53178 cJ7_fill_53178 4 none, Cond.methodLink RX0 85 yX0_findPivotRow, Cond.instanceMethod yX0_findPivotRow, Cond.selects RX0 yX0_findPivotRow yX0_findPivotRow, Cond.code yX0_findPivotRow cX0_findPivotRow 3 (some .int), Cond.methodLink RX0 89 yX0_clearColumn, Cond.instanceMethod yX0_clearColumn, Cond.selects RX0 yX0_clearColumn yX0_clearColumn, Cond.code yX0_clearColumn cX0_clearColumn 6 none, Cond.methodLink RX0 93 yX0_combine, Cond.instanceMethod yX0_combine, Cond.selects RX0 yX0_combine yX0_combine, Cond.code yX0_combine cX0_combine 9 none, Cond.methodLink RX0 97 yX0_quotient, Cond.static yX0_quotient, Cond.code yX0_quotient cX0_quotient 4 (some .long), Cond.methodLink RX4 136 yX0_determine, Cond.instanceMethod yX0_determine, Cond.selects RX0 yX0_determine yX0_determine, Cond.code yX0_determine cX0_determine 2 (some .boolean), Cond.methodLink RX0 101 yX0_firstFreePart, Cond.instanceMethod yX0_firstFreePart, Cond.selects RX0 yX0_firstFreePart yX0_firstFreePart, Cond.code yX0_firstFreePart cX0_firstFreePart 3 (some .int)]
def wsX4_isIdentifiable_r5 : List Cond := [Cond.methodLink RX0 107 yX0_freePart, Cond.instanceMethod yX0_freePart, Cond.selects RX0 yX0_freePart yX0_freePart, Cond.code yX0_freePart cX0_freePart 4 (some .long)]
def wsX4_isIdentifiable : List Cond := .code yX4_isIdentifiable cX4_isIdentifiable 4 (some .int) :: ((wsX4_isIdentifiable_r1 ++ (wsX4_isIdentifiable_r2 ++ (wsX4_isIdentifiable_r3 ++ (wsX4_isIdentifiable_r4 ++ wsX4_isIdentifiable_r5)))) ++ wsX40 ++ wsX30 ++ wsX00 ++ wsX20)
def wsX4_identifiableCount_r1 : List Cond := [Cond.fieldLink RX4 32 "TrafficMatrix" "equations" "LTrafficMatrix$Equations;", Cond.fieldLink RX4 14 "TrafficMatrix" "network" "LTrafficMatrix$Network;", Cond.fieldLink RX4 25 "TrafficMatrix" "measurements" "LTrafficMatrix$Measurements;", Cond.methodLink RX4 122 yX0_solve, Cond.instanceMethod yX0_solve, Cond.selects RX0 yX0_solve yX0_solve, Cond.initialized RX0, Cond.code yX0_solve cX0_solve 4 none, Cond.fieldLink RX0 27 "TrafficMatrix$Network" "linkCount" "I", Cond.fieldLink RX0 33 "TrafficMatrix$Equations" "rowCount" "I", Cond.methodLink RX0 36 yX0_findKnown, Cond.instanceMethod yX0_findKnown, Cond.selects RX0 yX0_findKnown yX0_findKnown, Cond.code yX0_findKnown cX0_findKnown 4 none, Cond.fieldLink RX0 47 "TrafficMatrix$Equations" "knownCount" "I", Cond.fieldLink RX0 23 "TrafficMatrix$Equations" "known" "[Z", Cond.methodLink RX0 50 yX3_hasRoute, Cond.instanceMethod yX3_hasRoute, Cond.selects RX3 yX3_hasRoute yX3_hasRoute, Cond.initialized RX3, Cond.code yX3_hasRoute cX3_hasRoute 2 (some .boolean), Cond.fieldLink RX3 21 "TrafficMatrix$Network" "routeLengths" "[I", Cond.methodLink RX0 54 yX2_hasPair, Cond.instanceMethod yX2_hasPair]
def wsX4_identifiableCount_r2 : List Cond := [Cond.selects RX2 yX2_hasPair yX2_hasPair, Cond.initialized RX2, Cond.code yX2_hasPair cX2_hasPair 2 (some .boolean), Cond.fieldLink RX2 21 "TrafficMatrix$Measurements" "pairValues" "[I", Cond.methodLink RX0 40 yX0_fillRow, Cond.instanceMethod yX0_fillRow, Cond.selects RX0 yX0_fillRow yX0_fillRow, Cond.code yX0_fillRow cX0_fillRow 6 none, Cond.fieldLink RX0 11 "TrafficMatrix$Equations" "rows" "[[J", Cond.fieldLink RX0 65 "TrafficMatrix$Measurements" "loads" "[I", Cond.fieldLink RX0 72 "TrafficMatrix$Measurements" "pairValues" "[I", Cond.methodLink RX0 59 yJ7_fill_d0a16, Cond.static yJ7_fill_d0a16, Cond.initialized RJ7, Cond.code yJ7_fill_d0a16 cJ7_fill_d0a16 5 none, Cond.methodLink RX0 68 yX3_routeUses, Cond.instanceMethod yX3_routeUses, Cond.selects RX3 yX3_routeUses yX3_routeUses, Cond.code yX3_routeUses cX3_routeUses 4 (some .boolean), Cond.fieldLink RX3 26 "TrafficMatrix$Network" "routeLinks" "[[I", Cond.methodLink RX0 44 yX0_eliminate, Cond.instanceMethod yX0_eliminate, Cond.selects RX0 yX0_eliminate yX0_eliminate, Cond.code yX0_eliminate cX0_eliminate 3 none]
def wsX4_identifiableCount_r3 : List Cond := [Cond.fieldLink RX0 75 "TrafficMatrix$Equations" "pivotCount" "I", Cond.fieldLink RX0 78 "TrafficMatrix$Equations" "pivot" "J", Cond.fieldLink RX0 16 "TrafficMatrix$Equations" "rowOfPivot" "[I", Cond.fieldLink RX0 20 "TrafficMatrix$Equations" "pivotOfRow" "[I", Cond.methodLink RX0 82 yJ7_fill_53178, Cond.static yJ7_fill_53178, Cond.code yJ7_fill_53178 cJ7_fill_53178 4 none, Cond.methodLink RX0 85 yX0_findPivotRow, Cond.instanceMethod yX0_findPivotRow, Cond.selects RX0 yX0_findPivotRow yX0_findPivotRow, Cond.code yX0_findPivotRow cX0_findPivotRow 3 (some .int), Cond.methodLink RX0 89 yX0_clearColumn, Cond.instanceMethod yX0_clearColumn, Cond.selects RX0 yX0_clearColumn yX0_clearColumn, Cond.code yX0_clearColumn cX0_clearColumn 6 none, Cond.methodLink RX0 93 yX0_combine, Cond.instanceMethod yX0_combine, Cond.selects RX0 yX0_combine yX0_combine, Cond.code yX0_combine cX0_combine 9 none, Cond.methodLink RX0 97 yX0_quotient, Cond.static yX0_quotient, Cond.code yX0_quotient cX0_quotient 4 (some .long), Cond.methodLink RX4 139 yX3_hasRoute, Cond.methodLink RX4 136 yX0_determine]
def wsX4_identifiableCount_r4 : List Cond := [Cond.instanceMethod yX0_determine, Cond.selects RX0 yX0_determine yX0_determine, Cond.code yX0_determine cX0_determine 2 (some .boolean), Cond.methodLink RX0 101 yX0_firstFreePart, Cond.instanceMethod yX0_firstFreePart, Cond.selects RX0 yX0_firstFreePart yX0_firstFreePart, Cond.code yX0_firstFreePart cX0_firstFreePart 3 (some .int), Cond.methodLink RX0 107 yX0_freePart, Cond.instanceMethod yX0_freePart, Cond.selects RX0 yX0_freePart yX0_freePart, Cond.code yX0_freePart cX0_freePart 4 (some .long)]
def wsX4_identifiableCount : List Cond := .code yX4_identifiableCount cX4_identifiableCount 3 (some .int) :: ((wsX4_identifiableCount_r1 ++ (wsX4_identifiableCount_r2 ++ (wsX4_identifiableCount_r3 ++ wsX4_identifiableCount_r4))) ++ wsX40 ++ wsX30 ++ wsX00 ++ wsX20)
def wsX4_findIdentified_r1 : List Cond := [Cond.fieldLink RX4 32 "TrafficMatrix" "equations" "LTrafficMatrix$Equations;", Cond.fieldLink RX4 14 "TrafficMatrix" "network" "LTrafficMatrix$Network;", Cond.fieldLink RX4 25 "TrafficMatrix" "measurements" "LTrafficMatrix$Measurements;", Cond.methodLink RX4 78 yX4_routeError, Cond.instanceMethod yX4_routeError, Cond.selects RX4 yX4_routeError yX4_routeError, Cond.initialized RX4, Cond.code yX4_routeError cX4_routeError 4 (some .int), Cond.methodLink RX4 60 yX4_pairError, Cond.instanceMethod yX4_pairError, Cond.selects RX4 yX4_pairError yX4_pairError, Cond.code yX4_pairError cX4_pairError 3 (some .int), Cond.methodLink RX4 107 yX3_hasNode, Cond.instanceMethod yX3_hasNode, Cond.selects RX3 yX3_hasNode yX3_hasNode, Cond.initialized RX3, Cond.code yX3_hasNode cX3_hasNode 2 (some .boolean), Cond.fieldLink RX3 32 "TrafficMatrix$Network" "nodeCount" "I", Cond.methodLink RX4 84 yX4_slotOf, Cond.static yX4_slotOf, Cond.code yX4_slotOf cX4_slotOf 2 (some .int), Cond.methodLink RX4 139 yX3_hasRoute, Cond.instanceMethod yX3_hasRoute, Cond.selects RX3 yX3_hasRoute yX3_hasRoute]
def wsX4_findIdentified_r2 : List Cond := [Cond.code yX3_hasRoute cX3_hasRoute 2 (some .boolean), Cond.fieldLink RX3 21 "TrafficMatrix$Network" "routeLengths" "[I", Cond.methodLink RX4 122 yX0_solve, Cond.instanceMethod yX0_solve, Cond.selects RX0 yX0_solve yX0_solve, Cond.initialized RX0, Cond.code yX0_solve cX0_solve 4 none, Cond.fieldLink RX0 27 "TrafficMatrix$Network" "linkCount" "I", Cond.fieldLink RX0 33 "TrafficMatrix$Equations" "rowCount" "I", Cond.methodLink RX0 36 yX0_findKnown, Cond.instanceMethod yX0_findKnown, Cond.selects RX0 yX0_findKnown yX0_findKnown, Cond.code yX0_findKnown cX0_findKnown 4 none, Cond.fieldLink RX0 47 "TrafficMatrix$Equations" "knownCount" "I", Cond.fieldLink RX0 23 "TrafficMatrix$Equations" "known" "[Z", Cond.methodLink RX0 50 yX3_hasRoute, Cond.methodLink RX0 54 yX2_hasPair, Cond.instanceMethod yX2_hasPair, Cond.selects RX2 yX2_hasPair yX2_hasPair, Cond.initialized RX2, Cond.code yX2_hasPair cX2_hasPair 2 (some .boolean), Cond.fieldLink RX2 21 "TrafficMatrix$Measurements" "pairValues" "[I", Cond.methodLink RX0 40 yX0_fillRow, Cond.instanceMethod yX0_fillRow]
def wsX4_findIdentified_r3 : List Cond := [Cond.selects RX0 yX0_fillRow yX0_fillRow, Cond.code yX0_fillRow cX0_fillRow 6 none, Cond.fieldLink RX0 11 "TrafficMatrix$Equations" "rows" "[[J", Cond.fieldLink RX0 65 "TrafficMatrix$Measurements" "loads" "[I", Cond.fieldLink RX0 72 "TrafficMatrix$Measurements" "pairValues" "[I", Cond.methodLink RX0 59 yJ7_fill_d0a16, Cond.static yJ7_fill_d0a16, Cond.initialized RJ7, Cond.code yJ7_fill_d0a16 cJ7_fill_d0a16 5 none, Cond.methodLink RX0 68 yX3_routeUses, Cond.instanceMethod yX3_routeUses, Cond.selects RX3 yX3_routeUses yX3_routeUses, Cond.code yX3_routeUses cX3_routeUses 4 (some .boolean), Cond.fieldLink RX3 26 "TrafficMatrix$Network" "routeLinks" "[[I", Cond.methodLink RX0 44 yX0_eliminate, Cond.instanceMethod yX0_eliminate, Cond.selects RX0 yX0_eliminate yX0_eliminate, Cond.code yX0_eliminate cX0_eliminate 3 none, Cond.fieldLink RX0 75 "TrafficMatrix$Equations" "pivotCount" "I", Cond.fieldLink RX0 78 "TrafficMatrix$Equations" "pivot" "J", Cond.fieldLink RX0 16 "TrafficMatrix$Equations" "rowOfPivot" "[I", Cond.fieldLink RX0 20 "TrafficMatrix$Equations" "pivotOfRow" "[I", Cond.methodLink RX0 82 yJ7_fill_53178, Cond.static yJ7_fill_53178]
def wsX4_findIdentified_r4 : List Cond := [Cond.code yJ7_fill_53178 cJ7_fill_53178 4 none, Cond.methodLink RX0 85 yX0_findPivotRow, Cond.instanceMethod yX0_findPivotRow, Cond.selects RX0 yX0_findPivotRow yX0_findPivotRow, Cond.code yX0_findPivotRow cX0_findPivotRow 3 (some .int), Cond.methodLink RX0 89 yX0_clearColumn, Cond.instanceMethod yX0_clearColumn, Cond.selects RX0 yX0_clearColumn yX0_clearColumn, Cond.code yX0_clearColumn cX0_clearColumn 6 none, Cond.methodLink RX0 93 yX0_combine, Cond.instanceMethod yX0_combine, Cond.selects RX0 yX0_combine yX0_combine, Cond.code yX0_combine cX0_combine 9 none, Cond.methodLink RX0 97 yX0_quotient, Cond.static yX0_quotient, Cond.code yX0_quotient cX0_quotient 4 (some .long), Cond.methodLink RX4 136 yX0_determine, Cond.instanceMethod yX0_determine, Cond.selects RX0 yX0_determine yX0_determine, Cond.code yX0_determine cX0_determine 2 (some .boolean), Cond.methodLink RX0 101 yX0_firstFreePart, Cond.instanceMethod yX0_firstFreePart, Cond.selects RX0 yX0_firstFreePart yX0_firstFreePart, Cond.code yX0_firstFreePart cX0_firstFreePart 3 (some .int)]
def wsX4_findIdentified_r5 : List Cond := [Cond.methodLink RX0 107 yX0_freePart, Cond.instanceMethod yX0_freePart, Cond.selects RX0 yX0_freePart yX0_freePart, Cond.code yX0_freePart cX0_freePart 4 (some .long), Cond.methodLink RX4 132 yX0_haveSolution, Cond.instanceMethod yX0_haveSolution, Cond.selects RX0 yX0_haveSolution yX0_haveSolution, Cond.code yX0_haveSolution cX0_haveSolution 2 (some .boolean)]
def wsX4_findIdentified : List Cond := .code yX4_findIdentified cX4_findIdentified 3 (some .boolean) :: ((wsX4_findIdentified_r1 ++ (wsX4_findIdentified_r2 ++ (wsX4_findIdentified_r3 ++ (wsX4_findIdentified_r4 ++ wsX4_findIdentified_r5)))) ++ wsX40 ++ wsX30 ++ wsX00 ++ wsX20)
def wsX4_identifiedNumerator_r1 : List Cond := [Cond.constantLong RX4 146 (-9223372036854775808), Cond.fieldLink RX4 32 "TrafficMatrix" "equations" "LTrafficMatrix$Equations;", Cond.fieldLink RX4 25 "TrafficMatrix" "measurements" "LTrafficMatrix$Measurements;", Cond.methodLink RX4 142 yX4_findIdentified, Cond.instanceMethod yX4_findIdentified, Cond.selects RX4 yX4_findIdentified yX4_findIdentified, Cond.initialized RX4, Cond.code yX4_findIdentified cX4_findIdentified 3 (some .boolean), Cond.fieldLink RX4 14 "TrafficMatrix" "network" "LTrafficMatrix$Network;", Cond.methodLink RX4 78 yX4_routeError, Cond.instanceMethod yX4_routeError, Cond.selects RX4 yX4_routeError yX4_routeError, Cond.code yX4_routeError cX4_routeError 4 (some .int), Cond.methodLink RX4 60 yX4_pairError, Cond.instanceMethod yX4_pairError, Cond.selects RX4 yX4_pairError yX4_pairError, Cond.code yX4_pairError cX4_pairError 3 (some .int), Cond.methodLink RX4 107 yX3_hasNode, Cond.instanceMethod yX3_hasNode, Cond.selects RX3 yX3_hasNode yX3_hasNode, Cond.initialized RX3, Cond.code yX3_hasNode cX3_hasNode 2 (some .boolean), Cond.fieldLink RX3 32 "TrafficMatrix$Network" "nodeCount" "I", Cond.methodLink RX4 84 yX4_slotOf]
def wsX4_identifiedNumerator_r2 : List Cond := [Cond.static yX4_slotOf, Cond.code yX4_slotOf cX4_slotOf 2 (some .int), Cond.methodLink RX4 139 yX3_hasRoute, Cond.instanceMethod yX3_hasRoute, Cond.selects RX3 yX3_hasRoute yX3_hasRoute, Cond.code yX3_hasRoute cX3_hasRoute 2 (some .boolean), Cond.fieldLink RX3 21 "TrafficMatrix$Network" "routeLengths" "[I", Cond.methodLink RX4 122 yX0_solve, Cond.instanceMethod yX0_solve, Cond.selects RX0 yX0_solve yX0_solve, Cond.initialized RX0, Cond.code yX0_solve cX0_solve 4 none, Cond.fieldLink RX0 27 "TrafficMatrix$Network" "linkCount" "I", Cond.fieldLink RX0 33 "TrafficMatrix$Equations" "rowCount" "I", Cond.methodLink RX0 36 yX0_findKnown, Cond.instanceMethod yX0_findKnown, Cond.selects RX0 yX0_findKnown yX0_findKnown, Cond.code yX0_findKnown cX0_findKnown 4 none, Cond.fieldLink RX0 47 "TrafficMatrix$Equations" "knownCount" "I", Cond.fieldLink RX0 23 "TrafficMatrix$Equations" "known" "[Z", Cond.methodLink RX0 50 yX3_hasRoute, Cond.methodLink RX0 54 yX2_hasPair, Cond.instanceMethod yX2_hasPair, Cond.selects RX2 yX2_hasPair yX2_hasPair]
def wsX4_identifiedNumerator_r3 : List Cond := [Cond.initialized RX2, Cond.code yX2_hasPair cX2_hasPair 2 (some .boolean), Cond.fieldLink RX2 21 "TrafficMatrix$Measurements" "pairValues" "[I", Cond.methodLink RX0 40 yX0_fillRow, Cond.instanceMethod yX0_fillRow, Cond.selects RX0 yX0_fillRow yX0_fillRow, Cond.code yX0_fillRow cX0_fillRow 6 none, Cond.fieldLink RX0 11 "TrafficMatrix$Equations" "rows" "[[J", Cond.fieldLink RX0 65 "TrafficMatrix$Measurements" "loads" "[I", Cond.fieldLink RX0 72 "TrafficMatrix$Measurements" "pairValues" "[I", Cond.methodLink RX0 59 yJ7_fill_d0a16, Cond.static yJ7_fill_d0a16, Cond.initialized RJ7, Cond.code yJ7_fill_d0a16 cJ7_fill_d0a16 5 none, Cond.methodLink RX0 68 yX3_routeUses, Cond.instanceMethod yX3_routeUses, Cond.selects RX3 yX3_routeUses yX3_routeUses, Cond.code yX3_routeUses cX3_routeUses 4 (some .boolean), Cond.fieldLink RX3 26 "TrafficMatrix$Network" "routeLinks" "[[I", Cond.methodLink RX0 44 yX0_eliminate, Cond.instanceMethod yX0_eliminate, Cond.selects RX0 yX0_eliminate yX0_eliminate, Cond.code yX0_eliminate cX0_eliminate 3 none, Cond.fieldLink RX0 75 "TrafficMatrix$Equations" "pivotCount" "I"]
def wsX4_identifiedNumerator_r4 : List Cond := [Cond.fieldLink RX0 78 "TrafficMatrix$Equations" "pivot" "J", Cond.fieldLink RX0 16 "TrafficMatrix$Equations" "rowOfPivot" "[I", Cond.fieldLink RX0 20 "TrafficMatrix$Equations" "pivotOfRow" "[I", Cond.methodLink RX0 82 yJ7_fill_53178, Cond.static yJ7_fill_53178, Cond.code yJ7_fill_53178 cJ7_fill_53178 4 none, Cond.methodLink RX0 85 yX0_findPivotRow, Cond.instanceMethod yX0_findPivotRow, Cond.selects RX0 yX0_findPivotRow yX0_findPivotRow, Cond.code yX0_findPivotRow cX0_findPivotRow 3 (some .int), Cond.methodLink RX0 89 yX0_clearColumn, Cond.instanceMethod yX0_clearColumn, Cond.selects RX0 yX0_clearColumn yX0_clearColumn, Cond.code yX0_clearColumn cX0_clearColumn 6 none, Cond.methodLink RX0 93 yX0_combine, Cond.instanceMethod yX0_combine, Cond.selects RX0 yX0_combine yX0_combine, Cond.code yX0_combine cX0_combine 9 none, Cond.methodLink RX0 97 yX0_quotient, Cond.static yX0_quotient, Cond.code yX0_quotient cX0_quotient 4 (some .long), Cond.methodLink RX4 136 yX0_determine, Cond.instanceMethod yX0_determine, Cond.selects RX0 yX0_determine yX0_determine]
def wsX4_identifiedNumerator_r5 : List Cond := [Cond.code yX0_determine cX0_determine 2 (some .boolean), Cond.methodLink RX0 101 yX0_firstFreePart, Cond.instanceMethod yX0_firstFreePart, Cond.selects RX0 yX0_firstFreePart yX0_firstFreePart, Cond.code yX0_firstFreePart cX0_firstFreePart 3 (some .int), Cond.methodLink RX0 107 yX0_freePart, Cond.instanceMethod yX0_freePart, Cond.selects RX0 yX0_freePart yX0_freePart, Cond.code yX0_freePart cX0_freePart 4 (some .long), Cond.methodLink RX4 132 yX0_haveSolution, Cond.instanceMethod yX0_haveSolution, Cond.selects RX0 yX0_haveSolution yX0_haveSolution, Cond.code yX0_haveSolution cX0_haveSolution 2 (some .boolean), Cond.methodLink RX4 148 yX0_numeratorOf, Cond.instanceMethod yX0_numeratorOf, Cond.selects RX0 yX0_numeratorOf yX0_numeratorOf, Cond.code yX0_numeratorOf cX0_numeratorOf 6 (some .long), Cond.methodLink RX0 111 yX0_divisorOfPivotAnd, Cond.instanceMethod yX0_divisorOfPivotAnd, Cond.selects RX0 yX0_divisorOfPivotAnd yX0_divisorOfPivotAnd, Cond.code yX0_divisorOfPivotAnd cX0_divisorOfPivotAnd 10 (some .long), Cond.methodLink RX0 115 Lib.MathLoose.abs_long.x, Cond.static Lib.MathLoose.abs_long.x, Cond.initialized "java/lang/Math"]
def wsX4_identifiedNumerator_r6 : List Cond := [Cond.code Lib.MathLoose.abs_long.x Lib.MathLoose.abs_long.code 2 (some .long)]
def wsX4_identifiedNumerator : List Cond := .code yX4_identifiedNumerator cX4_identifiedNumerator 3 (some .long) :: ((wsX4_identifiedNumerator_r1 ++ (wsX4_identifiedNumerator_r2 ++ (wsX4_identifiedNumerator_r3 ++ (wsX4_identifiedNumerator_r4 ++ (wsX4_identifiedNumerator_r5 ++ wsX4_identifiedNumerator_r6))))) ++ wsX40 ++ wsX30 ++ wsX00 ++ wsX20)
def wsX4_identifiedDenominator_r1 : List Cond := [Cond.constantLong RX4 146 (-9223372036854775808), Cond.fieldLink RX4 32 "TrafficMatrix" "equations" "LTrafficMatrix$Equations;", Cond.methodLink RX4 142 yX4_findIdentified, Cond.instanceMethod yX4_findIdentified, Cond.selects RX4 yX4_findIdentified yX4_findIdentified, Cond.initialized RX4, Cond.code yX4_findIdentified cX4_findIdentified 3 (some .boolean), Cond.fieldLink RX4 14 "TrafficMatrix" "network" "LTrafficMatrix$Network;", Cond.fieldLink RX4 25 "TrafficMatrix" "measurements" "LTrafficMatrix$Measurements;", Cond.methodLink RX4 78 yX4_routeError, Cond.instanceMethod yX4_routeError, Cond.selects RX4 yX4_routeError yX4_routeError, Cond.code yX4_routeError cX4_routeError 4 (some .int), Cond.methodLink RX4 60 yX4_pairError, Cond.instanceMethod yX4_pairError, Cond.selects RX4 yX4_pairError yX4_pairError, Cond.code yX4_pairError cX4_pairError 3 (some .int), Cond.methodLink RX4 107 yX3_hasNode, Cond.instanceMethod yX3_hasNode, Cond.selects RX3 yX3_hasNode yX3_hasNode, Cond.initialized RX3, Cond.code yX3_hasNode cX3_hasNode 2 (some .boolean), Cond.fieldLink RX3 32 "TrafficMatrix$Network" "nodeCount" "I", Cond.methodLink RX4 84 yX4_slotOf]
def wsX4_identifiedDenominator_r2 : List Cond := [Cond.static yX4_slotOf, Cond.code yX4_slotOf cX4_slotOf 2 (some .int), Cond.methodLink RX4 139 yX3_hasRoute, Cond.instanceMethod yX3_hasRoute, Cond.selects RX3 yX3_hasRoute yX3_hasRoute, Cond.code yX3_hasRoute cX3_hasRoute 2 (some .boolean), Cond.fieldLink RX3 21 "TrafficMatrix$Network" "routeLengths" "[I", Cond.methodLink RX4 122 yX0_solve, Cond.instanceMethod yX0_solve, Cond.selects RX0 yX0_solve yX0_solve, Cond.initialized RX0, Cond.code yX0_solve cX0_solve 4 none, Cond.fieldLink RX0 27 "TrafficMatrix$Network" "linkCount" "I", Cond.fieldLink RX0 33 "TrafficMatrix$Equations" "rowCount" "I", Cond.methodLink RX0 36 yX0_findKnown, Cond.instanceMethod yX0_findKnown, Cond.selects RX0 yX0_findKnown yX0_findKnown, Cond.code yX0_findKnown cX0_findKnown 4 none, Cond.fieldLink RX0 47 "TrafficMatrix$Equations" "knownCount" "I", Cond.fieldLink RX0 23 "TrafficMatrix$Equations" "known" "[Z", Cond.methodLink RX0 50 yX3_hasRoute, Cond.methodLink RX0 54 yX2_hasPair, Cond.instanceMethod yX2_hasPair, Cond.selects RX2 yX2_hasPair yX2_hasPair]
def wsX4_identifiedDenominator_r3 : List Cond := [Cond.initialized RX2, Cond.code yX2_hasPair cX2_hasPair 2 (some .boolean), Cond.fieldLink RX2 21 "TrafficMatrix$Measurements" "pairValues" "[I", Cond.methodLink RX0 40 yX0_fillRow, Cond.instanceMethod yX0_fillRow, Cond.selects RX0 yX0_fillRow yX0_fillRow, Cond.code yX0_fillRow cX0_fillRow 6 none, Cond.fieldLink RX0 11 "TrafficMatrix$Equations" "rows" "[[J", Cond.fieldLink RX0 65 "TrafficMatrix$Measurements" "loads" "[I", Cond.fieldLink RX0 72 "TrafficMatrix$Measurements" "pairValues" "[I", Cond.methodLink RX0 59 yJ7_fill_d0a16, Cond.static yJ7_fill_d0a16, Cond.initialized RJ7, Cond.code yJ7_fill_d0a16 cJ7_fill_d0a16 5 none, Cond.methodLink RX0 68 yX3_routeUses, Cond.instanceMethod yX3_routeUses, Cond.selects RX3 yX3_routeUses yX3_routeUses, Cond.code yX3_routeUses cX3_routeUses 4 (some .boolean), Cond.fieldLink RX3 26 "TrafficMatrix$Network" "routeLinks" "[[I", Cond.methodLink RX0 44 yX0_eliminate, Cond.instanceMethod yX0_eliminate, Cond.selects RX0 yX0_eliminate yX0_eliminate, Cond.code yX0_eliminate cX0_eliminate 3 none, Cond.fieldLink RX0 75 "TrafficMatrix$Equations" "pivotCount" "I"]
def wsX4_identifiedDenominator_r4 : List Cond := [Cond.fieldLink RX0 78 "TrafficMatrix$Equations" "pivot" "J", Cond.fieldLink RX0 16 "TrafficMatrix$Equations" "rowOfPivot" "[I", Cond.fieldLink RX0 20 "TrafficMatrix$Equations" "pivotOfRow" "[I", Cond.methodLink RX0 82 yJ7_fill_53178, Cond.static yJ7_fill_53178, Cond.code yJ7_fill_53178 cJ7_fill_53178 4 none, Cond.methodLink RX0 85 yX0_findPivotRow, Cond.instanceMethod yX0_findPivotRow, Cond.selects RX0 yX0_findPivotRow yX0_findPivotRow, Cond.code yX0_findPivotRow cX0_findPivotRow 3 (some .int), Cond.methodLink RX0 89 yX0_clearColumn, Cond.instanceMethod yX0_clearColumn, Cond.selects RX0 yX0_clearColumn yX0_clearColumn, Cond.code yX0_clearColumn cX0_clearColumn 6 none, Cond.methodLink RX0 93 yX0_combine, Cond.instanceMethod yX0_combine, Cond.selects RX0 yX0_combine yX0_combine, Cond.code yX0_combine cX0_combine 9 none, Cond.methodLink RX0 97 yX0_quotient, Cond.static yX0_quotient, Cond.code yX0_quotient cX0_quotient 4 (some .long), Cond.methodLink RX4 136 yX0_determine, Cond.instanceMethod yX0_determine, Cond.selects RX0 yX0_determine yX0_determine]
def wsX4_identifiedDenominator_r5 : List Cond := [Cond.code yX0_determine cX0_determine 2 (some .boolean), Cond.methodLink RX0 101 yX0_firstFreePart, Cond.instanceMethod yX0_firstFreePart, Cond.selects RX0 yX0_firstFreePart yX0_firstFreePart, Cond.code yX0_firstFreePart cX0_firstFreePart 3 (some .int), Cond.methodLink RX0 107 yX0_freePart, Cond.instanceMethod yX0_freePart, Cond.selects RX0 yX0_freePart yX0_freePart, Cond.code yX0_freePart cX0_freePart 4 (some .long), Cond.methodLink RX4 132 yX0_haveSolution, Cond.instanceMethod yX0_haveSolution, Cond.selects RX0 yX0_haveSolution yX0_haveSolution, Cond.code yX0_haveSolution cX0_haveSolution 2 (some .boolean), Cond.methodLink RX4 152 yX0_denominatorOf, Cond.instanceMethod yX0_denominatorOf, Cond.selects RX0 yX0_denominatorOf yX0_denominatorOf, Cond.code yX0_denominatorOf cX0_denominatorOf 3 (some .long), Cond.methodLink RX0 115 Lib.MathLoose.abs_long.x, Cond.static Lib.MathLoose.abs_long.x, Cond.initialized "java/lang/Math", Cond.code Lib.MathLoose.abs_long.x Lib.MathLoose.abs_long.code 2 (some .long), Cond.methodLink RX0 111 yX0_divisorOfPivotAnd, Cond.instanceMethod yX0_divisorOfPivotAnd, Cond.selects RX0 yX0_divisorOfPivotAnd yX0_divisorOfPivotAnd]
def wsX4_identifiedDenominator_r6 : List Cond := [Cond.code yX0_divisorOfPivotAnd cX0_divisorOfPivotAnd 10 (some .long)]
def wsX4_identifiedDenominator : List Cond := .code yX4_identifiedDenominator cX4_identifiedDenominator 3 (some .long) :: ((wsX4_identifiedDenominator_r1 ++ (wsX4_identifiedDenominator_r2 ++ (wsX4_identifiedDenominator_r3 ++ (wsX4_identifiedDenominator_r4 ++ (wsX4_identifiedDenominator_r5 ++ wsX4_identifiedDenominator_r6))))) ++ wsX40 ++ wsX30 ++ wsX00 ++ wsX20)
def wsX4_countWith_r1 : List Cond := [Cond.fieldLink RX4 14 "TrafficMatrix" "network" "LTrafficMatrix$Network;", Cond.fieldLink RX4 32 "TrafficMatrix" "equations" "LTrafficMatrix$Equations;", Cond.methodLink RX4 139 yX3_hasRoute, Cond.instanceMethod yX3_hasRoute, Cond.selects RX3 yX3_hasRoute yX3_hasRoute, Cond.initialized RX3, Cond.code yX3_hasRoute cX3_hasRoute 2 (some .boolean), Cond.fieldLink RX3 21 "TrafficMatrix$Network" "routeLengths" "[I", Cond.methodLink RX4 199 yX0_determineWith, Cond.instanceMethod yX0_determineWith, Cond.selects RX0 yX0_determineWith yX0_determineWith, Cond.initialized RX0, Cond.code yX0_determineWith cX0_determineWith 5 (some .boolean), Cond.methodLink RX0 101 yX0_firstFreePart, Cond.instanceMethod yX0_firstFreePart, Cond.selects RX0 yX0_firstFreePart yX0_firstFreePart, Cond.code yX0_firstFreePart cX0_firstFreePart 3 (some .int), Cond.methodLink RX0 107 yX0_freePart, Cond.instanceMethod yX0_freePart, Cond.selects RX0 yX0_freePart yX0_freePart, Cond.code yX0_freePart cX0_freePart 4 (some .long), Cond.fieldLink RX0 23 "TrafficMatrix$Equations" "known" "[Z", Cond.fieldLink RX0 16 "TrafficMatrix$Equations" "rowOfPivot" "[I", Cond.fieldLink RX0 11 "TrafficMatrix$Equations" "rows" "[[J"]
def wsX4_countWith_r2 : List Cond := [Cond.methodLink RX0 104 yX0_determine, Cond.instanceMethod yX0_determine, Cond.selects RX0 yX0_determine yX0_determine, Cond.code yX0_determine cX0_determine 2 (some .boolean)]
def wsX4_countWith : List Cond := .code yX4_countWith cX4_countWith 4 (some .int) :: ((wsX4_countWith_r1 ++ wsX4_countWith_r2) ++ wsX40 ++ wsX30 ++ wsX00)
def wsX4_bestPair_r1 : List Cond := [Cond.fieldLink RX4 32 "TrafficMatrix" "equations" "LTrafficMatrix$Equations;", Cond.fieldLink RX4 14 "TrafficMatrix" "network" "LTrafficMatrix$Network;", Cond.fieldLink RX4 25 "TrafficMatrix" "measurements" "LTrafficMatrix$Measurements;", Cond.methodLink RX4 122 yX0_solve, Cond.instanceMethod yX0_solve, Cond.selects RX0 yX0_solve yX0_solve, Cond.initialized RX0, Cond.code yX0_solve cX0_solve 4 none, Cond.fieldLink RX0 27 "TrafficMatrix$Network" "linkCount" "I", Cond.fieldLink RX0 33 "TrafficMatrix$Equations" "rowCount" "I", Cond.methodLink RX0 36 yX0_findKnown, Cond.instanceMethod yX0_findKnown, Cond.selects RX0 yX0_findKnown yX0_findKnown, Cond.code yX0_findKnown cX0_findKnown 4 none, Cond.fieldLink RX0 47 "TrafficMatrix$Equations" "knownCount" "I", Cond.fieldLink RX0 23 "TrafficMatrix$Equations" "known" "[Z", Cond.methodLink RX0 50 yX3_hasRoute, Cond.instanceMethod yX3_hasRoute, Cond.selects RX3 yX3_hasRoute yX3_hasRoute, Cond.initialized RX3, Cond.code yX3_hasRoute cX3_hasRoute 2 (some .boolean), Cond.fieldLink RX3 21 "TrafficMatrix$Network" "routeLengths" "[I", Cond.methodLink RX0 54 yX2_hasPair, Cond.instanceMethod yX2_hasPair]
def wsX4_bestPair_r2 : List Cond := [Cond.selects RX2 yX2_hasPair yX2_hasPair, Cond.initialized RX2, Cond.code yX2_hasPair cX2_hasPair 2 (some .boolean), Cond.fieldLink RX2 21 "TrafficMatrix$Measurements" "pairValues" "[I", Cond.methodLink RX0 40 yX0_fillRow, Cond.instanceMethod yX0_fillRow, Cond.selects RX0 yX0_fillRow yX0_fillRow, Cond.code yX0_fillRow cX0_fillRow 6 none, Cond.fieldLink RX0 11 "TrafficMatrix$Equations" "rows" "[[J", Cond.fieldLink RX0 65 "TrafficMatrix$Measurements" "loads" "[I", Cond.fieldLink RX0 72 "TrafficMatrix$Measurements" "pairValues" "[I", Cond.methodLink RX0 59 yJ7_fill_d0a16, Cond.static yJ7_fill_d0a16, Cond.initialized RJ7, Cond.code yJ7_fill_d0a16 cJ7_fill_d0a16 5 none, Cond.methodLink RX0 68 yX3_routeUses, Cond.instanceMethod yX3_routeUses, Cond.selects RX3 yX3_routeUses yX3_routeUses, Cond.code yX3_routeUses cX3_routeUses 4 (some .boolean), Cond.fieldLink RX3 26 "TrafficMatrix$Network" "routeLinks" "[[I", Cond.methodLink RX0 44 yX0_eliminate, Cond.instanceMethod yX0_eliminate, Cond.selects RX0 yX0_eliminate yX0_eliminate, Cond.code yX0_eliminate cX0_eliminate 3 none]
def wsX4_bestPair_r3 : List Cond := [Cond.fieldLink RX0 75 "TrafficMatrix$Equations" "pivotCount" "I", Cond.fieldLink RX0 78 "TrafficMatrix$Equations" "pivot" "J", Cond.fieldLink RX0 16 "TrafficMatrix$Equations" "rowOfPivot" "[I", Cond.fieldLink RX0 20 "TrafficMatrix$Equations" "pivotOfRow" "[I", Cond.methodLink RX0 82 yJ7_fill_53178, Cond.static yJ7_fill_53178, Cond.code yJ7_fill_53178 cJ7_fill_53178 4 none, Cond.methodLink RX0 85 yX0_findPivotRow, Cond.instanceMethod yX0_findPivotRow, Cond.selects RX0 yX0_findPivotRow yX0_findPivotRow, Cond.code yX0_findPivotRow cX0_findPivotRow 3 (some .int), Cond.methodLink RX0 89 yX0_clearColumn, Cond.instanceMethod yX0_clearColumn, Cond.selects RX0 yX0_clearColumn yX0_clearColumn, Cond.code yX0_clearColumn cX0_clearColumn 6 none, Cond.methodLink RX0 93 yX0_combine, Cond.instanceMethod yX0_combine, Cond.selects RX0 yX0_combine yX0_combine, Cond.code yX0_combine cX0_combine 9 none, Cond.methodLink RX0 97 yX0_quotient, Cond.static yX0_quotient, Cond.code yX0_quotient cX0_quotient 4 (some .long), Cond.methodLink RX4 139 yX3_hasRoute, Cond.methodLink RX4 136 yX0_determine]
def wsX4_bestPair_r4 : List Cond := [Cond.instanceMethod yX0_determine, Cond.selects RX0 yX0_determine yX0_determine, Cond.code yX0_determine cX0_determine 2 (some .boolean), Cond.methodLink RX0 101 yX0_firstFreePart, Cond.instanceMethod yX0_firstFreePart, Cond.selects RX0 yX0_firstFreePart yX0_firstFreePart, Cond.code yX0_firstFreePart cX0_firstFreePart 3 (some .int), Cond.methodLink RX0 107 yX0_freePart, Cond.instanceMethod yX0_freePart, Cond.selects RX0 yX0_freePart yX0_freePart, Cond.code yX0_freePart cX0_freePart 4 (some .long), Cond.methodLink RX4 156 yX4_countWith, Cond.instanceMethod yX4_countWith, Cond.selects RX4 yX4_countWith yX4_countWith, Cond.initialized RX4, Cond.code yX4_countWith cX4_countWith 4 (some .int), Cond.methodLink RX4 199 yX0_determineWith, Cond.instanceMethod yX0_determineWith, Cond.selects RX0 yX0_determineWith yX0_determineWith, Cond.code yX0_determineWith cX0_determineWith 5 (some .boolean), Cond.methodLink RX0 104 yX0_determine]
def wsX4_bestPair : List Cond := .code yX4_bestPair cX4_bestPair 5 (some .int) :: ((wsX4_bestPair_r1 ++ (wsX4_bestPair_r2 ++ (wsX4_bestPair_r3 ++ wsX4_bestPair_r4))) ++ wsX40 ++ wsX30 ++ wsX00 ++ wsX20)
def wsX4_pairsOnLink : List Cond := .code yX4_pairsOnLink cX4_pairsOnLink 4 (some .int) :: ([.fieldLink RX4 14 "TrafficMatrix" "network" "LTrafficMatrix$Network;", .methodLink RX4 72 yX3_hasLink, .instanceMethod yX3_hasLink, .selects RX3 yX3_hasLink yX3_hasLink, .initialized RX3, .code yX3_hasLink cX3_hasLink 2 (some .boolean), .fieldLink RX3 36 "TrafficMatrix$Network" "linkCount" "I", .methodLink RX4 160 yX3_routeUses, .instanceMethod yX3_routeUses, .selects RX3 yX3_routeUses yX3_routeUses, .code yX3_routeUses cX3_routeUses 4 (some .boolean), .fieldLink RX3 21 "TrafficMatrix$Network" "routeLengths" "[I", .fieldLink RX3 26 "TrafficMatrix$Network" "routeLinks" "[[I"] ++ wsX40 ++ wsX30)
def wsX4_applyGravity_r1 : List Cond := [Cond.fieldLink RX4 39 "TrafficMatrix" "estimates" "LTrafficMatrix$Estimates;", Cond.fieldLink RX4 14 "TrafficMatrix" "network" "LTrafficMatrix$Network;", Cond.fieldLink RX4 25 "TrafficMatrix" "measurements" "LTrafficMatrix$Measurements;", Cond.methodLink RX4 163 yX1_takeGravity, Cond.instanceMethod yX1_takeGravity, Cond.selects RX1 yX1_takeGravity yX1_takeGravity, Cond.initialized RX1, Cond.code yX1_takeGravity cX1_takeGravity 9 (some .int), Cond.fieldLink RX1 9 "TrafficMatrix$Estimates" "values" "[J", Cond.fieldLink RX1 42 "TrafficMatrix$Measurements" "outTotals" "[I", Cond.fieldLink RX1 46 "TrafficMatrix$Measurements" "inTotals" "[I", Cond.methodLink RX1 30 yX2_sumOfOutTotals, Cond.instanceMethod yX2_sumOfOutTotals, Cond.selects RX2 yX2_sumOfOutTotals yX2_sumOfOutTotals, Cond.initialized RX2, Cond.code yX2_sumOfOutTotals cX2_sumOfOutTotals 3 (some .int), Cond.fieldLink RX2 15 "TrafficMatrix$Measurements" "outTotals" "[I", Cond.methodLink RX1 36 yX3_hasRoute, Cond.instanceMethod yX3_hasRoute, Cond.selects RX3 yX3_hasRoute yX3_hasRoute, Cond.initialized RX3, Cond.code yX3_hasRoute cX3_hasRoute 2 (some .boolean), Cond.fieldLink RX3 21 "TrafficMatrix$Network" "routeLengths" "[I", Cond.methodLink RX1 49 yX1_scaled]
def wsX4_applyGravity_r2 : List Cond := [Cond.static yX1_scaled, Cond.code yX1_scaled cX1_scaled 6 (some .long), Cond.constantLong RX1 80 (1000)]
def wsX4_applyGravity : List Cond := .code yX4_applyGravity cX4_applyGravity 1 (some .int) :: ((wsX4_applyGravity_r1 ++ wsX4_applyGravity_r2) ++ wsX40 ++ wsX10 ++ wsX20 ++ wsX30)
def wsX4_isTimes : List Cond := .code yX4_isTimes cX4_isTimes 1 (some .boolean) :: ([])
def wsX4_fitTotals_r1 : List Cond := [Cond.fieldLink RX4 39 "TrafficMatrix" "estimates" "LTrafficMatrix$Estimates;", Cond.fieldLink RX4 25 "TrafficMatrix" "measurements" "LTrafficMatrix$Measurements;", Cond.methodLink RX4 167 yX4_isTimes, Cond.static yX4_isTimes, Cond.initialized RX4, Cond.code yX4_isTimes cX4_isTimes 1 (some .boolean), Cond.methodLink RX4 170 yX1_remember, Cond.instanceMethod yX1_remember, Cond.selects RX1 yX1_remember yX1_remember, Cond.initialized RX1, Cond.code yX1_remember cX1_remember 1 none, Cond.fieldLink RX1 9 "TrafficMatrix$Estimates" "values" "[J", Cond.fieldLink RX1 15 "TrafficMatrix$Estimates" "remembered" "[J", Cond.methodLink RX1 24 arraycopyName, Cond.native arraycopyName, Cond.static arraycopyName, Cond.initialized "java/lang/System", Cond.methodLink RX4 173 yX1_fitOnceToTotals, Cond.instanceMethod yX1_fitOnceToTotals, Cond.selects RX1 yX1_fitOnceToTotals yX1_fitOnceToTotals, Cond.code yX1_fitOnceToTotals cX1_fitOnceToTotals 3 none, Cond.fieldLink RX1 42 "TrafficMatrix$Measurements" "outTotals" "[I", Cond.fieldLink RX1 46 "TrafficMatrix$Measurements" "inTotals" "[I", Cond.static yX4_slotOf]
def wsX4_fitTotals_r2 : List Cond := [Cond.code yX4_slotOf cX4_slotOf 2 (some .int), Cond.methodLink RX1 57 yX1_fitLine, Cond.instanceMethod yX1_fitLine, Cond.selects RX1 yX1_fitLine yX1_fitLine, Cond.code yX1_fitLine cX1_fitLine 8 none, Cond.methodLink RX1 49 yX1_scaled, Cond.static yX1_scaled, Cond.code yX1_scaled cX1_scaled 6 (some .long), Cond.constantLong RX1 80 (1000), Cond.methodLink RX4 177 yX1_countChanged, Cond.instanceMethod yX1_countChanged, Cond.selects RX1 yX1_countChanged yX1_countChanged, Cond.code yX1_countChanged cX1_countChanged 3 (some .int)]
def wsX4_fitTotals : List Cond := .code yX4_fitTotals cX4_fitTotals 3 (some .int) :: ((wsX4_fitTotals_r1 ++ wsX4_fitTotals_r2) ++ wsX40 ++ wsX10 ++ wsX20)
def wsX4_fitLinks_r1 : List Cond := [Cond.fieldLink RX4 39 "TrafficMatrix" "estimates" "LTrafficMatrix$Estimates;", Cond.fieldLink RX4 14 "TrafficMatrix" "network" "LTrafficMatrix$Network;", Cond.fieldLink RX4 25 "TrafficMatrix" "measurements" "LTrafficMatrix$Measurements;", Cond.methodLink RX4 167 yX4_isTimes, Cond.static yX4_isTimes, Cond.initialized RX4, Cond.code yX4_isTimes cX4_isTimes 1 (some .boolean), Cond.methodLink RX4 170 yX1_remember, Cond.instanceMethod yX1_remember, Cond.selects RX1 yX1_remember yX1_remember, Cond.initialized RX1, Cond.code yX1_remember cX1_remember 1 none, Cond.fieldLink RX1 9 "TrafficMatrix$Estimates" "values" "[J", Cond.fieldLink RX1 15 "TrafficMatrix$Estimates" "remembered" "[J", Cond.methodLink RX1 24 arraycopyName, Cond.native arraycopyName, Cond.static arraycopyName, Cond.initialized "java/lang/System", Cond.methodLink RX4 180 yX1_fitOnceToLinks, Cond.instanceMethod yX1_fitOnceToLinks, Cond.selects RX1 yX1_fitOnceToLinks yX1_fitOnceToLinks, Cond.code yX1_fitOnceToLinks cX1_fitOnceToLinks 4 none, Cond.fieldLink RX1 61 "TrafficMatrix$Network" "linkCount" "I", Cond.fieldLink RX1 65 "TrafficMatrix$Measurements" "loads" "[I"]
def wsX4_fitLinks_r2 : List Cond := [Cond.methodLink RX1 68 yX1_fitLink, Cond.instanceMethod yX1_fitLink, Cond.selects RX1 yX1_fitLink yX1_fitLink, Cond.code yX1_fitLink cX1_fitLink 7 none, Cond.methodLink RX1 72 yX1_sumOnLink, Cond.instanceMethod yX1_sumOnLink, Cond.selects RX1 yX1_sumOnLink yX1_sumOnLink, Cond.code yX1_sumOnLink cX1_sumOnLink 6 (some .long), Cond.methodLink RX1 76 yX3_routeUses, Cond.instanceMethod yX3_routeUses, Cond.selects RX3 yX3_routeUses yX3_routeUses, Cond.initialized RX3, Cond.code yX3_routeUses cX3_routeUses 4 (some .boolean), Cond.fieldLink RX3 21 "TrafficMatrix$Network" "routeLengths" "[I", Cond.fieldLink RX3 26 "TrafficMatrix$Network" "routeLinks" "[[I", Cond.methodLink RX1 49 yX1_scaled, Cond.static yX1_scaled, Cond.code yX1_scaled cX1_scaled 6 (some .long), Cond.constantLong RX1 80 (1000), Cond.methodLink RX4 177 yX1_countChanged, Cond.instanceMethod yX1_countChanged, Cond.selects RX1 yX1_countChanged yX1_countChanged, Cond.code yX1_countChanged cX1_countChanged 3 (some .int)]
def wsX4_fitLinks : List Cond := .code yX4_fitLinks cX4_fitLinks 3 (some .int) :: ((wsX4_fitLinks_r1 ++ wsX4_fitLinks_r2) ++ wsX40 ++ wsX10 ++ wsX30 ++ wsX20)
def wsX4_estimate : List Cond := .code yX4_estimate cX4_estimate 3 (some .long) :: ([.constantLong RX4 146 (-9223372036854775808), .fieldLink RX4 39 "TrafficMatrix" "estimates" "LTrafficMatrix$Estimates;", .fieldLink RX4 183 "TrafficMatrix$Estimates" "values" "[J", .methodLink RX4 60 yX4_pairError, .instanceMethod yX4_pairError, .selects RX4 yX4_pairError yX4_pairError, .initialized RX4, .code yX4_pairError cX4_pairError 3 (some .int), .fieldLink RX4 14 "TrafficMatrix" "network" "LTrafficMatrix$Network;", .methodLink RX4 107 yX3_hasNode, .instanceMethod yX3_hasNode, .selects RX3 yX3_hasNode yX3_hasNode, .initialized RX3, .code yX3_hasNode cX3_hasNode 2 (some .boolean), .fieldLink RX3 32 "TrafficMatrix$Network" "nodeCount" "I", .methodLink RX4 84 yX4_slotOf, .static yX4_slotOf, .code yX4_slotOf cX4_slotOf 2 (some .int)] ++ wsX40 ++ wsX10 ++ wsX30)
def wsX4_residual : List Cond := .code yX4_residual cX4_residual 2 (some .long) :: ([.fieldLink RX4 14 "TrafficMatrix" "network" "LTrafficMatrix$Network;", .constantLong RX4 146 (-9223372036854775808), .fieldLink RX4 39 "TrafficMatrix" "estimates" "LTrafficMatrix$Estimates;", .constantLong RX4 191 (1000), .fieldLink RX4 25 "TrafficMatrix" "measurements" "LTrafficMatrix$Measurements;", .fieldLink RX4 104 "TrafficMatrix$Measurements" "loads" "[I", .methodLink RX4 72 yX3_hasLink, .instanceMethod yX3_hasLink, .selects RX3 yX3_hasLink yX3_hasLink, .initialized RX3, .code yX3_hasLink cX3_hasLink 2 (some .boolean), .fieldLink RX3 36 "TrafficMatrix$Network" "linkCount" "I", .methodLink RX4 187 yX1_sumOnLink, .instanceMethod yX1_sumOnLink, .selects RX1 yX1_sumOnLink yX1_sumOnLink, .initialized RX1, .code yX1_sumOnLink cX1_sumOnLink 6 (some .long), .fieldLink RX1 9 "TrafficMatrix$Estimates" "values" "[J", .methodLink RX1 76 yX3_routeUses, .instanceMethod yX3_routeUses, .selects RX3 yX3_routeUses yX3_routeUses, .code yX3_routeUses cX3_routeUses 4 (some .boolean), .fieldLink RX3 21 "TrafficMatrix$Network" "routeLengths" "[I", .fieldLink RX3 26 "TrafficMatrix$Network" "routeLinks" "[[I"] ++ wsX40 ++ wsX20 ++ wsX30 ++ wsX10)
def wsX4_totalError : List Cond := .code yX4_totalError cX4_totalError 4 (some .long) :: ([.fieldLink RX4 14 "TrafficMatrix" "network" "LTrafficMatrix$Network;", .fieldLink RX4 39 "TrafficMatrix" "estimates" "LTrafficMatrix$Estimates;", .fieldLink RX4 183 "TrafficMatrix$Estimates" "values" "[J", .constantLong RX4 191 (1000), .fieldLink RX4 18 "TrafficMatrix" "demands" "[I", .methodLink RX4 193 Lib.MathLoose.abs_long.x, .static Lib.MathLoose.abs_long.x, .initialized "java/lang/Math", .code Lib.MathLoose.abs_long.x Lib.MathLoose.abs_long.code 2 (some .long), .methodLink RX4 139 yX3_hasRoute, .instanceMethod yX3_hasRoute, .selects RX3 yX3_hasRoute yX3_hasRoute, .initialized RX3, .code yX3_hasRoute cX3_hasRoute 2 (some .boolean), .fieldLink RX3 21 "TrafficMatrix$Network" "routeLengths" "[I"] ++ wsX40 ++ wsX10 ++ wsX30)
def wsX5_init : List Cond := .code yX5_init cX5_init 1 none :: ([.methodLink RX5 1 objectInit, .instanceMethod objectInit, .code objectInit ⟨#[0xb1]⟩ 1 none, .arrayClass .int, .fieldLink RX5 7 "TrafficMatrixModel" "sourceOf" "[I", .fieldLink RX5 13 "TrafficMatrixModel" "targetOf" "[I", .fieldLink RX5 16 "TrafficMatrixModel" "metricOf" "[I", .fieldLink RX5 19 "TrafficMatrixModel" "demand" "[I", .fieldLink RX5 22 "TrafficMatrixModel" "load" "[I", .fieldLink RX5 25 "TrafficMatrixModel" "outOf" "[I", .fieldLink RX5 28 "TrafficMatrixModel" "inOf" "[I", .arrayClass .boolean, .fieldLink RX5 31 "TrafficMatrixModel" "isMeasured" "[Z", .fieldLink RX5 35 "TrafficMatrixModel" "measured" "[I", .arrayClass .long, .fieldLink RX5 38 "TrafficMatrixModel" "guess" "[J", .fieldLink RX5 42 "TrafficMatrixModel" "distance" "[I", .fieldLink RX5 45 "TrafficMatrixModel" "bitsOf" "[I", .fieldLink RX5 48 "TrafficMatrixModel" "row" "[J", .fieldLink RX5 51 "TrafficMatrixModel" "pivotRow" "[I", .fieldLink RX5 54 "TrafficMatrixModel" "wasSure" "[Z", .fieldLink RX5 57 "TrafficMatrixModel" "before" "[J", .fieldLink RX5 60 "TrafficMatrixModel" "nodes" "I"] ++ wsX50)
def wsX5_within : List Cond := .code yX5_within cX5_within 3 (some .boolean) :: ([])
def wsX5_isNode : List Cond := .code yX5_isNode cX5_isNode 2 (some .boolean) :: ([.fieldLink RX5 60 "TrafficMatrixModel" "nodes" "I", .methodLink RX5 64 yX5_within, .static yX5_within, .initialized RX5, .code yX5_within cX5_within 3 (some .boolean)] ++ wsX50)
def wsX5_isLink : List Cond := .code yX5_isLink cX5_isLink 2 (some .boolean) :: ([.fieldLink RX5 68 "TrafficMatrixModel" "links" "I", .methodLink RX5 64 yX5_within, .static yX5_within, .initialized RX5, .code yX5_within cX5_within 3 (some .boolean)] ++ wsX50)
def wsX5_refused : List Cond := .code yX5_refused cX5_refused 3 (some .int) :: ([.methodLink RX5 71 yX5_isNode, .instanceMethod yX5_isNode, .selects RX5 yX5_isNode yX5_isNode, .initialized RX5, .code yX5_isNode cX5_isNode 2 (some .boolean), .fieldLink RX5 60 "TrafficMatrixModel" "nodes" "I", .methodLink RX5 64 yX5_within, .static yX5_within, .code yX5_within cX5_within 3 (some .boolean)] ++ wsX50)
def wsX5_reset : List Cond := .code yX5_reset cX5_reset 4 (some .int) :: ([.fieldLink RX5 68 "TrafficMatrixModel" "links" "I", .fieldLink RX5 60 "TrafficMatrixModel" "nodes" "I", .fieldLink RX5 19 "TrafficMatrixModel" "demand" "[I", .fieldLink RX5 31 "TrafficMatrixModel" "isMeasured" "[Z", .fieldLink RX5 38 "TrafficMatrixModel" "guess" "[J", .fieldLink RX5 25 "TrafficMatrixModel" "outOf" "[I", .fieldLink RX5 28 "TrafficMatrixModel" "inOf" "[I", .methodLink RX5 64 yX5_within, .static yX5_within, .initialized RX5, .code yX5_within cX5_within 3 (some .boolean)] ++ wsX50)
def wsX5_addLink : List Cond := .code yX5_addLink cX5_addLink 5 (some .int) :: ([.fieldLink RX5 68 "TrafficMatrixModel" "links" "I", .fieldLink RX5 7 "TrafficMatrixModel" "sourceOf" "[I", .fieldLink RX5 13 "TrafficMatrixModel" "targetOf" "[I", .fieldLink RX5 16 "TrafficMatrixModel" "metricOf" "[I", .fieldLink RX5 22 "TrafficMatrixModel" "load" "[I", .methodLink RX5 75 yX5_refused, .instanceMethod yX5_refused, .selects RX5 yX5_refused yX5_refused, .initialized RX5, .code yX5_refused cX5_refused 3 (some .int), .methodLink RX5 71 yX5_isNode, .instanceMethod yX5_isNode, .selects RX5 yX5_isNode yX5_isNode, .code yX5_isNode cX5_isNode 2 (some .boolean), .fieldLink RX5 60 "TrafficMatrixModel" "nodes" "I", .methodLink RX5 64 yX5_within, .static yX5_within, .code yX5_within cX5_within 3 (some .boolean)] ++ wsX50)
def wsX5_setMetric : List Cond := .code yX5_setMetric cX5_setMetric 4 (some .int) :: ([.fieldLink RX5 16 "TrafficMatrixModel" "metricOf" "[I", .methodLink RX5 79 yX5_isLink, .instanceMethod yX5_isLink, .selects RX5 yX5_isLink yX5_isLink, .initialized RX5, .code yX5_isLink cX5_isLink 2 (some .boolean), .fieldLink RX5 68 "TrafficMatrixModel" "links" "I", .methodLink RX5 64 yX5_within, .static yX5_within, .code yX5_within cX5_within 3 (some .boolean)] ++ wsX50)
def wsX5_costOf : List Cond := .code yX5_costOf cX5_costOf 2 (some .int) :: ([.fieldLink RX5 16 "TrafficMatrixModel" "metricOf" "[I"] ++ wsX50)
def wsX5_isPair : List Cond := .code yX5_isPair cX5_isPair 2 (some .boolean) :: ([.fieldLink RX5 60 "TrafficMatrixModel" "nodes" "I"] ++ wsX50)
def wsX5_nextLink : List Cond := .code yX5_nextLink cX5_nextLink 4 (some .int) :: ([.fieldLink RX5 7 "TrafficMatrixModel" "sourceOf" "[I", .fieldLink RX5 42 "TrafficMatrixModel" "distance" "[I", .fieldLink RX5 13 "TrafficMatrixModel" "targetOf" "[I", .methodLink RX5 83 yX5_costOf, .instanceMethod yX5_costOf, .selects RX5 yX5_costOf yX5_costOf, .initialized RX5, .code yX5_costOf cX5_costOf 2 (some .int), .fieldLink RX5 16 "TrafficMatrixModel" "metricOf" "[I"] ++ wsX50)
def wsX5_routeBits : List Cond := .code yX5_routeBits cX5_routeBits 5 (some .int) :: ([.fieldLink RX5 13 "TrafficMatrixModel" "targetOf" "[I", .methodLink RX5 93 yX5_nextLink, .instanceMethod yX5_nextLink, .selects RX5 yX5_nextLink yX5_nextLink, .initialized RX5, .code yX5_nextLink cX5_nextLink 4 (some .int), .fieldLink RX5 7 "TrafficMatrixModel" "sourceOf" "[I", .fieldLink RX5 42 "TrafficMatrixModel" "distance" "[I", .methodLink RX5 83 yX5_costOf, .instanceMethod yX5_costOf, .selects RX5 yX5_costOf yX5_costOf, .code yX5_costOf cX5_costOf 2 (some .int), .fieldLink RX5 16 "TrafficMatrixModel" "metricOf" "[I"] ++ wsX50)
def wsX5_findRoutes_r1 : List Cond := [Cond.fieldLink RX5 42 "TrafficMatrixModel" "distance" "[I", Cond.constant RX5 82 (1000000), Cond.fieldLink RX5 68 "TrafficMatrixModel" "links" "I", Cond.fieldLink RX5 60 "TrafficMatrixModel" "nodes" "I", Cond.fieldLink RX5 13 "TrafficMatrixModel" "targetOf" "[I", Cond.fieldLink RX5 7 "TrafficMatrixModel" "sourceOf" "[I", Cond.fieldLink RX5 45 "TrafficMatrixModel" "bitsOf" "[I", Cond.methodLink RX5 83 yX5_costOf, Cond.instanceMethod yX5_costOf, Cond.selects RX5 yX5_costOf yX5_costOf, Cond.initialized RX5, Cond.code yX5_costOf cX5_costOf 2 (some .int), Cond.fieldLink RX5 16 "TrafficMatrixModel" "metricOf" "[I", Cond.methodLink RX5 87 yX5_isPair, Cond.instanceMethod yX5_isPair, Cond.selects RX5 yX5_isPair yX5_isPair, Cond.code yX5_isPair cX5_isPair 2 (some .boolean), Cond.methodLink RX5 90 yX5_routeBits, Cond.instanceMethod yX5_routeBits, Cond.selects RX5 yX5_routeBits yX5_routeBits, Cond.code yX5_routeBits cX5_routeBits 5 (some .int), Cond.methodLink RX5 93 yX5_nextLink, Cond.instanceMethod yX5_nextLink, Cond.selects RX5 yX5_nextLink yX5_nextLink]
def wsX5_findRoutes_r2 : List Cond := [Cond.code yX5_nextLink cX5_nextLink 4 (some .int)]
def wsX5_findRoutes : List Cond := .code yX5_findRoutes cX5_findRoutes 6 none :: ((wsX5_findRoutes_r1 ++ wsX5_findRoutes_r2) ++ wsX50)
def wsX5_hasRoute : List Cond := .code yX5_hasRoute cX5_hasRoute 2 (some .boolean) :: ([.fieldLink RX5 45 "TrafficMatrixModel" "bitsOf" "[I"] ++ wsX50)
def wsX5_uses : List Cond := .code yX5_uses cX5_uses 3 (some .boolean) :: ([.fieldLink RX5 45 "TrafficMatrixModel" "bitsOf" "[I"] ++ wsX50)
def wsX5_refusedRoute_r1 : List Cond := [Cond.methodLink RX5 75 yX5_refused, Cond.instanceMethod yX5_refused, Cond.selects RX5 yX5_refused yX5_refused, Cond.initialized RX5, Cond.code yX5_refused cX5_refused 3 (some .int), Cond.methodLink RX5 71 yX5_isNode, Cond.instanceMethod yX5_isNode, Cond.selects RX5 yX5_isNode yX5_isNode, Cond.code yX5_isNode cX5_isNode 2 (some .boolean), Cond.fieldLink RX5 60 "TrafficMatrixModel" "nodes" "I", Cond.methodLink RX5 64 yX5_within, Cond.static yX5_within, Cond.code yX5_within cX5_within 3 (some .boolean), Cond.methodLink RX5 96 yX5_findRoutes, Cond.instanceMethod yX5_findRoutes, Cond.selects RX5 yX5_findRoutes yX5_findRoutes, Cond.code yX5_findRoutes cX5_findRoutes 6 none, Cond.fieldLink RX5 42 "TrafficMatrixModel" "distance" "[I", Cond.constant RX5 82 (1000000), Cond.fieldLink RX5 68 "TrafficMatrixModel" "links" "I", Cond.fieldLink RX5 13 "TrafficMatrixModel" "targetOf" "[I", Cond.fieldLink RX5 7 "TrafficMatrixModel" "sourceOf" "[I", Cond.fieldLink RX5 45 "TrafficMatrixModel" "bitsOf" "[I", Cond.methodLink RX5 83 yX5_costOf]
def wsX5_refusedRoute_r2 : List Cond := [Cond.instanceMethod yX5_costOf, Cond.selects RX5 yX5_costOf yX5_costOf, Cond.code yX5_costOf cX5_costOf 2 (some .int), Cond.fieldLink RX5 16 "TrafficMatrixModel" "metricOf" "[I", Cond.methodLink RX5 87 yX5_isPair, Cond.instanceMethod yX5_isPair, Cond.selects RX5 yX5_isPair yX5_isPair, Cond.code yX5_isPair cX5_isPair 2 (some .boolean), Cond.methodLink RX5 90 yX5_routeBits, Cond.instanceMethod yX5_routeBits, Cond.selects RX5 yX5_routeBits yX5_routeBits, Cond.code yX5_routeBits cX5_routeBits 5 (some .int), Cond.methodLink RX5 93 yX5_nextLink, Cond.instanceMethod yX5_nextLink, Cond.selects RX5 yX5_nextLink yX5_nextLink, Cond.code yX5_nextLink cX5_nextLink 4 (some .int), Cond.methodLink RX5 99 yX5_hasRoute, Cond.instanceMethod yX5_hasRoute, Cond.selects RX5 yX5_hasRoute yX5_hasRoute, Cond.code yX5_hasRoute cX5_hasRoute 2 (some .boolean)]
def wsX5_refusedRoute : List Cond := .code yX5_refusedRoute cX5_refusedRoute 4 (some .int) :: ((wsX5_refusedRoute_r1 ++ wsX5_refusedRoute_r2) ++ wsX50)
def wsX5_routeLength_r1 : List Cond := [Cond.fieldLink RX5 42 "TrafficMatrixModel" "distance" "[I", Cond.methodLink RX5 102 yX5_refusedRoute, Cond.instanceMethod yX5_refusedRoute, Cond.selects RX5 yX5_refusedRoute yX5_refusedRoute, Cond.initialized RX5, Cond.code yX5_refusedRoute cX5_refusedRoute 4 (some .int), Cond.methodLink RX5 75 yX5_refused, Cond.instanceMethod yX5_refused, Cond.selects RX5 yX5_refused yX5_refused, Cond.code yX5_refused cX5_refused 3 (some .int), Cond.methodLink RX5 71 yX5_isNode, Cond.instanceMethod yX5_isNode, Cond.selects RX5 yX5_isNode yX5_isNode, Cond.code yX5_isNode cX5_isNode 2 (some .boolean), Cond.fieldLink RX5 60 "TrafficMatrixModel" "nodes" "I", Cond.methodLink RX5 64 yX5_within, Cond.static yX5_within, Cond.code yX5_within cX5_within 3 (some .boolean), Cond.methodLink RX5 96 yX5_findRoutes, Cond.instanceMethod yX5_findRoutes, Cond.selects RX5 yX5_findRoutes yX5_findRoutes, Cond.code yX5_findRoutes cX5_findRoutes 6 none, Cond.constant RX5 82 (1000000), Cond.fieldLink RX5 68 "TrafficMatrixModel" "links" "I"]
def wsX5_routeLength_r2 : List Cond := [Cond.fieldLink RX5 13 "TrafficMatrixModel" "targetOf" "[I", Cond.fieldLink RX5 7 "TrafficMatrixModel" "sourceOf" "[I", Cond.fieldLink RX5 45 "TrafficMatrixModel" "bitsOf" "[I", Cond.methodLink RX5 83 yX5_costOf, Cond.instanceMethod yX5_costOf, Cond.selects RX5 yX5_costOf yX5_costOf, Cond.code yX5_costOf cX5_costOf 2 (some .int), Cond.fieldLink RX5 16 "TrafficMatrixModel" "metricOf" "[I", Cond.methodLink RX5 87 yX5_isPair, Cond.instanceMethod yX5_isPair, Cond.selects RX5 yX5_isPair yX5_isPair, Cond.code yX5_isPair cX5_isPair 2 (some .boolean), Cond.methodLink RX5 90 yX5_routeBits, Cond.instanceMethod yX5_routeBits, Cond.selects RX5 yX5_routeBits yX5_routeBits, Cond.code yX5_routeBits cX5_routeBits 5 (some .int), Cond.methodLink RX5 93 yX5_nextLink, Cond.instanceMethod yX5_nextLink, Cond.selects RX5 yX5_nextLink yX5_nextLink, Cond.code yX5_nextLink cX5_nextLink 4 (some .int), Cond.methodLink RX5 99 yX5_hasRoute, Cond.instanceMethod yX5_hasRoute, Cond.selects RX5 yX5_hasRoute yX5_hasRoute, Cond.code yX5_hasRoute cX5_hasRoute 2 (some .boolean)]
def wsX5_routeLength : List Cond := .code yX5_routeLength cX5_routeLength 4 (some .int) :: ((wsX5_routeLength_r1 ++ wsX5_routeLength_r2) ++ wsX50)
def wsX5_routeLink_r1 : List Cond := [Cond.fieldLink RX5 42 "TrafficMatrixModel" "distance" "[I", Cond.fieldLink RX5 13 "TrafficMatrixModel" "targetOf" "[I", Cond.methodLink RX5 102 yX5_refusedRoute, Cond.instanceMethod yX5_refusedRoute, Cond.selects RX5 yX5_refusedRoute yX5_refusedRoute, Cond.initialized RX5, Cond.code yX5_refusedRoute cX5_refusedRoute 4 (some .int), Cond.methodLink RX5 75 yX5_refused, Cond.instanceMethod yX5_refused, Cond.selects RX5 yX5_refused yX5_refused, Cond.code yX5_refused cX5_refused 3 (some .int), Cond.methodLink RX5 71 yX5_isNode, Cond.instanceMethod yX5_isNode, Cond.selects RX5 yX5_isNode yX5_isNode, Cond.code yX5_isNode cX5_isNode 2 (some .boolean), Cond.fieldLink RX5 60 "TrafficMatrixModel" "nodes" "I", Cond.methodLink RX5 64 yX5_within, Cond.static yX5_within, Cond.code yX5_within cX5_within 3 (some .boolean), Cond.methodLink RX5 96 yX5_findRoutes, Cond.instanceMethod yX5_findRoutes, Cond.selects RX5 yX5_findRoutes yX5_findRoutes, Cond.code yX5_findRoutes cX5_findRoutes 6 none, Cond.constant RX5 82 (1000000)]
def wsX5_routeLink_r2 : List Cond := [Cond.fieldLink RX5 68 "TrafficMatrixModel" "links" "I", Cond.fieldLink RX5 7 "TrafficMatrixModel" "sourceOf" "[I", Cond.fieldLink RX5 45 "TrafficMatrixModel" "bitsOf" "[I", Cond.methodLink RX5 83 yX5_costOf, Cond.instanceMethod yX5_costOf, Cond.selects RX5 yX5_costOf yX5_costOf, Cond.code yX5_costOf cX5_costOf 2 (some .int), Cond.fieldLink RX5 16 "TrafficMatrixModel" "metricOf" "[I", Cond.methodLink RX5 87 yX5_isPair, Cond.instanceMethod yX5_isPair, Cond.selects RX5 yX5_isPair yX5_isPair, Cond.code yX5_isPair cX5_isPair 2 (some .boolean), Cond.methodLink RX5 90 yX5_routeBits, Cond.instanceMethod yX5_routeBits, Cond.selects RX5 yX5_routeBits yX5_routeBits, Cond.code yX5_routeBits cX5_routeBits 5 (some .int), Cond.methodLink RX5 93 yX5_nextLink, Cond.instanceMethod yX5_nextLink, Cond.selects RX5 yX5_nextLink yX5_nextLink, Cond.code yX5_nextLink cX5_nextLink 4 (some .int), Cond.methodLink RX5 99 yX5_hasRoute, Cond.instanceMethod yX5_hasRoute, Cond.selects RX5 yX5_hasRoute yX5_hasRoute, Cond.code yX5_hasRoute cX5_hasRoute 2 (some .boolean)]
def wsX5_routeLink : List Cond := .code yX5_routeLink cX5_routeLink 7 (some .int) :: ((wsX5_routeLink_r1 ++ wsX5_routeLink_r2) ++ wsX50)
def wsX5_pairsOnLink_r1 : List Cond := [Cond.methodLink RX5 79 yX5_isLink, Cond.instanceMethod yX5_isLink, Cond.selects RX5 yX5_isLink yX5_isLink, Cond.initialized RX5, Cond.code yX5_isLink cX5_isLink 2 (some .boolean), Cond.fieldLink RX5 68 "TrafficMatrixModel" "links" "I", Cond.methodLink RX5 64 yX5_within, Cond.static yX5_within, Cond.code yX5_within cX5_within 3 (some .boolean), Cond.methodLink RX5 96 yX5_findRoutes, Cond.instanceMethod yX5_findRoutes, Cond.selects RX5 yX5_findRoutes yX5_findRoutes, Cond.code yX5_findRoutes cX5_findRoutes 6 none, Cond.fieldLink RX5 42 "TrafficMatrixModel" "distance" "[I", Cond.constant RX5 82 (1000000), Cond.fieldLink RX5 60 "TrafficMatrixModel" "nodes" "I", Cond.fieldLink RX5 13 "TrafficMatrixModel" "targetOf" "[I", Cond.fieldLink RX5 7 "TrafficMatrixModel" "sourceOf" "[I", Cond.fieldLink RX5 45 "TrafficMatrixModel" "bitsOf" "[I", Cond.methodLink RX5 83 yX5_costOf, Cond.instanceMethod yX5_costOf, Cond.selects RX5 yX5_costOf yX5_costOf, Cond.code yX5_costOf cX5_costOf 2 (some .int), Cond.fieldLink RX5 16 "TrafficMatrixModel" "metricOf" "[I"]
def wsX5_pairsOnLink_r2 : List Cond := [Cond.methodLink RX5 87 yX5_isPair, Cond.instanceMethod yX5_isPair, Cond.selects RX5 yX5_isPair yX5_isPair, Cond.code yX5_isPair cX5_isPair 2 (some .boolean), Cond.methodLink RX5 90 yX5_routeBits, Cond.instanceMethod yX5_routeBits, Cond.selects RX5 yX5_routeBits yX5_routeBits, Cond.code yX5_routeBits cX5_routeBits 5 (some .int), Cond.methodLink RX5 93 yX5_nextLink, Cond.instanceMethod yX5_nextLink, Cond.selects RX5 yX5_nextLink yX5_nextLink, Cond.code yX5_nextLink cX5_nextLink 4 (some .int), Cond.methodLink RX5 105 yX5_uses, Cond.instanceMethod yX5_uses, Cond.selects RX5 yX5_uses yX5_uses, Cond.code yX5_uses cX5_uses 3 (some .boolean)]
def wsX5_pairsOnLink : List Cond := .code yX5_pairsOnLink cX5_pairsOnLink 4 (some .int) :: ((wsX5_pairsOnLink_r1 ++ wsX5_pairsOnLink_r2) ++ wsX50)
def wsX5_setDemand : List Cond := .code yX5_setDemand cX5_setDemand 6 (some .int) :: ([.fieldLink RX5 19 "TrafficMatrixModel" "demand" "[I", .methodLink RX5 75 yX5_refused, .instanceMethod yX5_refused, .selects RX5 yX5_refused yX5_refused, .initialized RX5, .code yX5_refused cX5_refused 3 (some .int), .methodLink RX5 71 yX5_isNode, .instanceMethod yX5_isNode, .selects RX5 yX5_isNode yX5_isNode, .code yX5_isNode cX5_isNode 2 (some .boolean), .fieldLink RX5 60 "TrafficMatrixModel" "nodes" "I", .methodLink RX5 64 yX5_within, .static yX5_within, .code yX5_within cX5_within 3 (some .boolean)] ++ wsX50)
def wsX5_carried : List Cond := .code yX5_carried cX5_carried 4 (some .int) :: ([.fieldLink RX5 19 "TrafficMatrixModel" "demand" "[I", .methodLink RX5 105 yX5_uses, .instanceMethod yX5_uses, .selects RX5 yX5_uses yX5_uses, .initialized RX5, .code yX5_uses cX5_uses 3 (some .boolean), .fieldLink RX5 45 "TrafficMatrixModel" "bitsOf" "[I"] ++ wsX50)
def wsX5_carriedLoad_r1 : List Cond := [Cond.methodLink RX5 79 yX5_isLink, Cond.instanceMethod yX5_isLink, Cond.selects RX5 yX5_isLink yX5_isLink, Cond.initialized RX5, Cond.code yX5_isLink cX5_isLink 2 (some .boolean), Cond.fieldLink RX5 68 "TrafficMatrixModel" "links" "I", Cond.methodLink RX5 64 yX5_within, Cond.static yX5_within, Cond.code yX5_within cX5_within 3 (some .boolean), Cond.methodLink RX5 96 yX5_findRoutes, Cond.instanceMethod yX5_findRoutes, Cond.selects RX5 yX5_findRoutes yX5_findRoutes, Cond.code yX5_findRoutes cX5_findRoutes 6 none, Cond.fieldLink RX5 42 "TrafficMatrixModel" "distance" "[I", Cond.constant RX5 82 (1000000), Cond.fieldLink RX5 60 "TrafficMatrixModel" "nodes" "I", Cond.fieldLink RX5 13 "TrafficMatrixModel" "targetOf" "[I", Cond.fieldLink RX5 7 "TrafficMatrixModel" "sourceOf" "[I", Cond.fieldLink RX5 45 "TrafficMatrixModel" "bitsOf" "[I", Cond.methodLink RX5 83 yX5_costOf, Cond.instanceMethod yX5_costOf, Cond.selects RX5 yX5_costOf yX5_costOf, Cond.code yX5_costOf cX5_costOf 2 (some .int), Cond.fieldLink RX5 16 "TrafficMatrixModel" "metricOf" "[I"]
def wsX5_carriedLoad_r2 : List Cond := [Cond.methodLink RX5 87 yX5_isPair, Cond.instanceMethod yX5_isPair, Cond.selects RX5 yX5_isPair yX5_isPair, Cond.code yX5_isPair cX5_isPair 2 (some .boolean), Cond.methodLink RX5 90 yX5_routeBits, Cond.instanceMethod yX5_routeBits, Cond.selects RX5 yX5_routeBits yX5_routeBits, Cond.code yX5_routeBits cX5_routeBits 5 (some .int), Cond.methodLink RX5 93 yX5_nextLink, Cond.instanceMethod yX5_nextLink, Cond.selects RX5 yX5_nextLink yX5_nextLink, Cond.code yX5_nextLink cX5_nextLink 4 (some .int), Cond.methodLink RX5 109 yX5_carried, Cond.instanceMethod yX5_carried, Cond.selects RX5 yX5_carried yX5_carried, Cond.code yX5_carried cX5_carried 4 (some .int), Cond.fieldLink RX5 19 "TrafficMatrixModel" "demand" "[I", Cond.methodLink RX5 105 yX5_uses, Cond.instanceMethod yX5_uses, Cond.selects RX5 yX5_uses yX5_uses, Cond.code yX5_uses cX5_uses 3 (some .boolean)]
def wsX5_carriedLoad : List Cond := .code yX5_carriedLoad cX5_carriedLoad 2 (some .int) :: ((wsX5_carriedLoad_r1 ++ wsX5_carriedLoad_r2) ++ wsX50)
def wsX5_measure_r1 : List Cond := [Cond.fieldLink RX5 25 "TrafficMatrixModel" "outOf" "[I", Cond.fieldLink RX5 28 "TrafficMatrixModel" "inOf" "[I", Cond.fieldLink RX5 19 "TrafficMatrixModel" "demand" "[I", Cond.fieldLink RX5 68 "TrafficMatrixModel" "links" "I", Cond.fieldLink RX5 22 "TrafficMatrixModel" "load" "[I", Cond.methodLink RX5 96 yX5_findRoutes, Cond.instanceMethod yX5_findRoutes, Cond.selects RX5 yX5_findRoutes yX5_findRoutes, Cond.initialized RX5, Cond.code yX5_findRoutes cX5_findRoutes 6 none, Cond.fieldLink RX5 42 "TrafficMatrixModel" "distance" "[I", Cond.constant RX5 82 (1000000), Cond.fieldLink RX5 60 "TrafficMatrixModel" "nodes" "I", Cond.fieldLink RX5 13 "TrafficMatrixModel" "targetOf" "[I", Cond.fieldLink RX5 7 "TrafficMatrixModel" "sourceOf" "[I", Cond.fieldLink RX5 45 "TrafficMatrixModel" "bitsOf" "[I", Cond.methodLink RX5 83 yX5_costOf, Cond.instanceMethod yX5_costOf, Cond.selects RX5 yX5_costOf yX5_costOf, Cond.code yX5_costOf cX5_costOf 2 (some .int), Cond.fieldLink RX5 16 "TrafficMatrixModel" "metricOf" "[I", Cond.methodLink RX5 87 yX5_isPair, Cond.instanceMethod yX5_isPair, Cond.selects RX5 yX5_isPair yX5_isPair]
def wsX5_measure_r2 : List Cond := [Cond.code yX5_isPair cX5_isPair 2 (some .boolean), Cond.methodLink RX5 90 yX5_routeBits, Cond.instanceMethod yX5_routeBits, Cond.selects RX5 yX5_routeBits yX5_routeBits, Cond.code yX5_routeBits cX5_routeBits 5 (some .int), Cond.methodLink RX5 93 yX5_nextLink, Cond.instanceMethod yX5_nextLink, Cond.selects RX5 yX5_nextLink yX5_nextLink, Cond.code yX5_nextLink cX5_nextLink 4 (some .int), Cond.methodLink RX5 99 yX5_hasRoute, Cond.instanceMethod yX5_hasRoute, Cond.selects RX5 yX5_hasRoute yX5_hasRoute, Cond.code yX5_hasRoute cX5_hasRoute 2 (some .boolean), Cond.methodLink RX5 109 yX5_carried, Cond.instanceMethod yX5_carried, Cond.selects RX5 yX5_carried yX5_carried, Cond.code yX5_carried cX5_carried 4 (some .int), Cond.methodLink RX5 105 yX5_uses, Cond.instanceMethod yX5_uses, Cond.selects RX5 yX5_uses yX5_uses, Cond.code yX5_uses cX5_uses 3 (some .boolean)]
def wsX5_measure : List Cond := .code yX5_measure cX5_measure 3 (some .int) :: ((wsX5_measure_r1 ++ wsX5_measure_r2) ++ wsX50)
def wsX5_setMeasuredLoad : List Cond := .code yX5_setMeasuredLoad cX5_setMeasuredLoad 4 (some .int) :: ([.constant RX5 112 (199980), .fieldLink RX5 22 "TrafficMatrixModel" "load" "[I", .methodLink RX5 79 yX5_isLink, .instanceMethod yX5_isLink, .selects RX5 yX5_isLink yX5_isLink, .initialized RX5, .code yX5_isLink cX5_isLink 2 (some .boolean), .fieldLink RX5 68 "TrafficMatrixModel" "links" "I", .methodLink RX5 64 yX5_within, .static yX5_within, .code yX5_within cX5_within 3 (some .boolean)] ++ wsX50)
def wsX5_measuredLoad : List Cond := .code yX5_measuredLoad cX5_measuredLoad 2 (some .int) :: ([.fieldLink RX5 22 "TrafficMatrixModel" "load" "[I", .methodLink RX5 79 yX5_isLink, .instanceMethod yX5_isLink, .selects RX5 yX5_isLink yX5_isLink, .initialized RX5, .code yX5_isLink cX5_isLink 2 (some .boolean), .fieldLink RX5 68 "TrafficMatrixModel" "links" "I", .methodLink RX5 64 yX5_within, .static yX5_within, .code yX5_within cX5_within 3 (some .boolean)] ++ wsX50)
def wsX5_outTotal : List Cond := .code yX5_outTotal cX5_outTotal 2 (some .int) :: ([.fieldLink RX5 25 "TrafficMatrixModel" "outOf" "[I", .methodLink RX5 71 yX5_isNode, .instanceMethod yX5_isNode, .selects RX5 yX5_isNode yX5_isNode, .initialized RX5, .code yX5_isNode cX5_isNode 2 (some .boolean), .fieldLink RX5 60 "TrafficMatrixModel" "nodes" "I", .methodLink RX5 64 yX5_within, .static yX5_within, .code yX5_within cX5_within 3 (some .boolean)] ++ wsX50)
def wsX5_inTotal : List Cond := .code yX5_inTotal cX5_inTotal 2 (some .int) :: ([.fieldLink RX5 28 "TrafficMatrixModel" "inOf" "[I", .methodLink RX5 71 yX5_isNode, .instanceMethod yX5_isNode, .selects RX5 yX5_isNode yX5_isNode, .initialized RX5, .code yX5_isNode cX5_isNode 2 (some .boolean), .fieldLink RX5 60 "TrafficMatrixModel" "nodes" "I", .methodLink RX5 64 yX5_within, .static yX5_within, .code yX5_within cX5_within 3 (some .boolean)] ++ wsX50)
def wsX5_measurePair_r1 : List Cond := [Cond.fieldLink RX5 31 "TrafficMatrixModel" "isMeasured" "[Z", Cond.fieldLink RX5 35 "TrafficMatrixModel" "measured" "[I", Cond.fieldLink RX5 19 "TrafficMatrixModel" "demand" "[I", Cond.methodLink RX5 102 yX5_refusedRoute, Cond.instanceMethod yX5_refusedRoute, Cond.selects RX5 yX5_refusedRoute yX5_refusedRoute, Cond.initialized RX5, Cond.code yX5_refusedRoute cX5_refusedRoute 4 (some .int), Cond.methodLink RX5 75 yX5_refused, Cond.instanceMethod yX5_refused, Cond.selects RX5 yX5_refused yX5_refused, Cond.code yX5_refused cX5_refused 3 (some .int), Cond.methodLink RX5 71 yX5_isNode, Cond.instanceMethod yX5_isNode, Cond.selects RX5 yX5_isNode yX5_isNode, Cond.code yX5_isNode cX5_isNode 2 (some .boolean), Cond.fieldLink RX5 60 "TrafficMatrixModel" "nodes" "I", Cond.methodLink RX5 64 yX5_within, Cond.static yX5_within, Cond.code yX5_within cX5_within 3 (some .boolean), Cond.methodLink RX5 96 yX5_findRoutes, Cond.instanceMethod yX5_findRoutes, Cond.selects RX5 yX5_findRoutes yX5_findRoutes, Cond.code yX5_findRoutes cX5_findRoutes 6 none]
def wsX5_measurePair_r2 : List Cond := [Cond.fieldLink RX5 42 "TrafficMatrixModel" "distance" "[I", Cond.constant RX5 82 (1000000), Cond.fieldLink RX5 68 "TrafficMatrixModel" "links" "I", Cond.fieldLink RX5 13 "TrafficMatrixModel" "targetOf" "[I", Cond.fieldLink RX5 7 "TrafficMatrixModel" "sourceOf" "[I", Cond.fieldLink RX5 45 "TrafficMatrixModel" "bitsOf" "[I", Cond.methodLink RX5 83 yX5_costOf, Cond.instanceMethod yX5_costOf, Cond.selects RX5 yX5_costOf yX5_costOf, Cond.code yX5_costOf cX5_costOf 2 (some .int), Cond.fieldLink RX5 16 "TrafficMatrixModel" "metricOf" "[I", Cond.methodLink RX5 87 yX5_isPair, Cond.instanceMethod yX5_isPair, Cond.selects RX5 yX5_isPair yX5_isPair, Cond.code yX5_isPair cX5_isPair 2 (some .boolean), Cond.methodLink RX5 90 yX5_routeBits, Cond.instanceMethod yX5_routeBits, Cond.selects RX5 yX5_routeBits yX5_routeBits, Cond.code yX5_routeBits cX5_routeBits 5 (some .int), Cond.methodLink RX5 93 yX5_nextLink, Cond.instanceMethod yX5_nextLink, Cond.selects RX5 yX5_nextLink yX5_nextLink, Cond.code yX5_nextLink cX5_nextLink 4 (some .int), Cond.methodLink RX5 99 yX5_hasRoute]
def wsX5_measurePair_r3 : List Cond := [Cond.instanceMethod yX5_hasRoute, Cond.selects RX5 yX5_hasRoute yX5_hasRoute, Cond.code yX5_hasRoute cX5_hasRoute 2 (some .boolean)]
def wsX5_measurePair : List Cond := .code yX5_measurePair cX5_measurePair 5 (some .int) :: ((wsX5_measurePair_r1 ++ (wsX5_measurePair_r2 ++ wsX5_measurePair_r3)) ++ wsX50)
def wsX5_forgetPair : List Cond := .code yX5_forgetPair cX5_forgetPair 5 (some .int) :: ([.fieldLink RX5 31 "TrafficMatrixModel" "isMeasured" "[Z", .fieldLink RX5 35 "TrafficMatrixModel" "measured" "[I", .methodLink RX5 75 yX5_refused, .instanceMethod yX5_refused, .selects RX5 yX5_refused yX5_refused, .initialized RX5, .code yX5_refused cX5_refused 3 (some .int), .methodLink RX5 71 yX5_isNode, .instanceMethod yX5_isNode, .selects RX5 yX5_isNode yX5_isNode, .code yX5_isNode cX5_isNode 2 (some .boolean), .fieldLink RX5 60 "TrafficMatrixModel" "nodes" "I", .methodLink RX5 64 yX5_within, .static yX5_within, .code yX5_within cX5_within 3 (some .boolean)] ++ wsX50)
def wsX5_laysOut : List Cond := .code yX5_laysOut cX5_laysOut 8 none :: ([.fieldLink RX5 113 "TrafficMatrixModel" "known" "I", .fieldLink RX5 51 "TrafficMatrixModel" "pivotRow" "[I", .fieldLink RX5 31 "TrafficMatrixModel" "isMeasured" "[Z", .fieldLink RX5 68 "TrafficMatrixModel" "links" "I", .fieldLink RX5 22 "TrafficMatrixModel" "load" "[I", .fieldLink RX5 48 "TrafficMatrixModel" "row" "[J", .fieldLink RX5 35 "TrafficMatrixModel" "measured" "[I", .methodLink RX5 99 yX5_hasRoute, .instanceMethod yX5_hasRoute, .selects RX5 yX5_hasRoute yX5_hasRoute, .initialized RX5, .code yX5_hasRoute cX5_hasRoute 2 (some .boolean), .fieldLink RX5 45 "TrafficMatrixModel" "bitsOf" "[I", .methodLink RX5 105 yX5_uses, .instanceMethod yX5_uses, .selects RX5 yX5_uses yX5_uses, .code yX5_uses cX5_uses 3 (some .boolean)] ++ wsX50)
def wsX5_common : List Cond := .code yX5_common cX5_common 10 (some .long) :: ([])
def wsX5_shortens : List Cond := .code yX5_shortens cX5_shortens 5 none :: ([.fieldLink RX5 48 "TrafficMatrixModel" "row" "[J", .methodLink RX5 116 yX5_common, .static yX5_common, .initialized RX5, .code yX5_common cX5_common 10 (some .long)] ++ wsX50)
def wsX5_exchanges : List Cond := .code yX5_exchanges cX5_exchanges 6 none :: ([.fieldLink RX5 48 "TrafficMatrixModel" "row" "[J"] ++ wsX50)
def wsX5_clears : List Cond := .code yX5_clears cX5_clears 9 none :: ([.fieldLink RX5 48 "TrafficMatrixModel" "row" "[J", .methodLink RX5 120 yX5_shortens, .instanceMethod yX5_shortens, .selects RX5 yX5_shortens yX5_shortens, .initialized RX5, .code yX5_shortens cX5_shortens 5 none, .methodLink RX5 116 yX5_common, .static yX5_common, .code yX5_common cX5_common 10 (some .long)] ++ wsX50)
def wsX5_reduces_r1 : List Cond := [Cond.fieldLink RX5 127 "TrafficMatrixModel" "rows" "I", Cond.fieldLink RX5 68 "TrafficMatrixModel" "links" "I", Cond.fieldLink RX5 48 "TrafficMatrixModel" "row" "[J", Cond.fieldLink RX5 51 "TrafficMatrixModel" "pivotRow" "[I", Cond.methodLink RX5 124 yX5_laysOut, Cond.instanceMethod yX5_laysOut, Cond.selects RX5 yX5_laysOut yX5_laysOut, Cond.initialized RX5, Cond.code yX5_laysOut cX5_laysOut 8 none, Cond.fieldLink RX5 113 "TrafficMatrixModel" "known" "I", Cond.fieldLink RX5 31 "TrafficMatrixModel" "isMeasured" "[Z", Cond.fieldLink RX5 22 "TrafficMatrixModel" "load" "[I", Cond.fieldLink RX5 35 "TrafficMatrixModel" "measured" "[I", Cond.methodLink RX5 99 yX5_hasRoute, Cond.instanceMethod yX5_hasRoute, Cond.selects RX5 yX5_hasRoute yX5_hasRoute, Cond.code yX5_hasRoute cX5_hasRoute 2 (some .boolean), Cond.fieldLink RX5 45 "TrafficMatrixModel" "bitsOf" "[I", Cond.methodLink RX5 105 yX5_uses, Cond.instanceMethod yX5_uses, Cond.selects RX5 yX5_uses yX5_uses, Cond.code yX5_uses cX5_uses 3 (some .boolean), Cond.methodLink RX5 130 yX5_exchanges, Cond.instanceMethod yX5_exchanges]
def wsX5_reduces_r2 : List Cond := [Cond.selects RX5 yX5_exchanges yX5_exchanges, Cond.code yX5_exchanges cX5_exchanges 6 none, Cond.methodLink RX5 134 yX5_clears, Cond.instanceMethod yX5_clears, Cond.selects RX5 yX5_clears yX5_clears, Cond.code yX5_clears cX5_clears 9 none, Cond.methodLink RX5 120 yX5_shortens, Cond.instanceMethod yX5_shortens, Cond.selects RX5 yX5_shortens yX5_shortens, Cond.code yX5_shortens cX5_shortens 5 none, Cond.methodLink RX5 116 yX5_common, Cond.static yX5_common, Cond.code yX5_common cX5_common 10 (some .long)]
def wsX5_reduces : List Cond := .code yX5_reduces cX5_reduces 5 none :: ((wsX5_reduces_r1 ++ wsX5_reduces_r2) ++ wsX50)
def wsX5_agrees : List Cond := .code yX5_agrees cX5_agrees 2 (some .boolean) :: ([.fieldLink RX5 127 "TrafficMatrixModel" "rows" "I", .fieldLink RX5 68 "TrafficMatrixModel" "links" "I", .fieldLink RX5 48 "TrafficMatrixModel" "row" "[J"] ++ wsX50)
def wsX5_isSure : List Cond := .code yX5_isSure cX5_isSure 5 (some .boolean) :: ([.fieldLink RX5 31 "TrafficMatrixModel" "isMeasured" "[Z", .fieldLink RX5 51 "TrafficMatrixModel" "pivotRow" "[I", .fieldLink RX5 48 "TrafficMatrixModel" "row" "[J", .methodLink RX5 99 yX5_hasRoute, .instanceMethod yX5_hasRoute, .selects RX5 yX5_hasRoute yX5_hasRoute, .initialized RX5, .code yX5_hasRoute cX5_hasRoute 2 (some .boolean), .fieldLink RX5 45 "TrafficMatrixModel" "bitsOf" "[I"] ++ wsX50)
def wsX5_sureCount_r1 : List Cond := [Cond.methodLink RX5 138 yX5_reduces, Cond.instanceMethod yX5_reduces, Cond.selects RX5 yX5_reduces yX5_reduces, Cond.initialized RX5, Cond.code yX5_reduces cX5_reduces 5 none, Cond.fieldLink RX5 127 "TrafficMatrixModel" "rows" "I", Cond.fieldLink RX5 68 "TrafficMatrixModel" "links" "I", Cond.fieldLink RX5 48 "TrafficMatrixModel" "row" "[J", Cond.fieldLink RX5 51 "TrafficMatrixModel" "pivotRow" "[I", Cond.methodLink RX5 124 yX5_laysOut, Cond.instanceMethod yX5_laysOut, Cond.selects RX5 yX5_laysOut yX5_laysOut, Cond.code yX5_laysOut cX5_laysOut 8 none, Cond.fieldLink RX5 113 "TrafficMatrixModel" "known" "I", Cond.fieldLink RX5 31 "TrafficMatrixModel" "isMeasured" "[Z", Cond.fieldLink RX5 22 "TrafficMatrixModel" "load" "[I", Cond.fieldLink RX5 35 "TrafficMatrixModel" "measured" "[I", Cond.methodLink RX5 99 yX5_hasRoute, Cond.instanceMethod yX5_hasRoute, Cond.selects RX5 yX5_hasRoute yX5_hasRoute, Cond.code yX5_hasRoute cX5_hasRoute 2 (some .boolean), Cond.fieldLink RX5 45 "TrafficMatrixModel" "bitsOf" "[I", Cond.methodLink RX5 105 yX5_uses, Cond.instanceMethod yX5_uses]
def wsX5_sureCount_r2 : List Cond := [Cond.selects RX5 yX5_uses yX5_uses, Cond.code yX5_uses cX5_uses 3 (some .boolean), Cond.methodLink RX5 130 yX5_exchanges, Cond.instanceMethod yX5_exchanges, Cond.selects RX5 yX5_exchanges yX5_exchanges, Cond.code yX5_exchanges cX5_exchanges 6 none, Cond.methodLink RX5 134 yX5_clears, Cond.instanceMethod yX5_clears, Cond.selects RX5 yX5_clears yX5_clears, Cond.code yX5_clears cX5_clears 9 none, Cond.methodLink RX5 120 yX5_shortens, Cond.instanceMethod yX5_shortens, Cond.selects RX5 yX5_shortens yX5_shortens, Cond.code yX5_shortens cX5_shortens 5 none, Cond.methodLink RX5 116 yX5_common, Cond.static yX5_common, Cond.code yX5_common cX5_common 10 (some .long), Cond.methodLink RX5 141 yX5_isSure, Cond.instanceMethod yX5_isSure, Cond.selects RX5 yX5_isSure yX5_isSure, Cond.code yX5_isSure cX5_isSure 5 (some .boolean)]
def wsX5_sureCount : List Cond := .code yX5_sureCount cX5_sureCount 4 (some .int) :: ((wsX5_sureCount_r1 ++ wsX5_sureCount_r2) ++ wsX50)
def wsX5_rank_r1 : List Cond := [Cond.fieldLink RX5 113 "TrafficMatrixModel" "known" "I", Cond.fieldLink RX5 127 "TrafficMatrixModel" "rows" "I", Cond.methodLink RX5 96 yX5_findRoutes, Cond.instanceMethod yX5_findRoutes, Cond.selects RX5 yX5_findRoutes yX5_findRoutes, Cond.initialized RX5, Cond.code yX5_findRoutes cX5_findRoutes 6 none, Cond.fieldLink RX5 42 "TrafficMatrixModel" "distance" "[I", Cond.constant RX5 82 (1000000), Cond.fieldLink RX5 68 "TrafficMatrixModel" "links" "I", Cond.fieldLink RX5 60 "TrafficMatrixModel" "nodes" "I", Cond.fieldLink RX5 13 "TrafficMatrixModel" "targetOf" "[I", Cond.fieldLink RX5 7 "TrafficMatrixModel" "sourceOf" "[I", Cond.fieldLink RX5 45 "TrafficMatrixModel" "bitsOf" "[I", Cond.methodLink RX5 83 yX5_costOf, Cond.instanceMethod yX5_costOf, Cond.selects RX5 yX5_costOf yX5_costOf, Cond.code yX5_costOf cX5_costOf 2 (some .int), Cond.fieldLink RX5 16 "TrafficMatrixModel" "metricOf" "[I", Cond.methodLink RX5 87 yX5_isPair, Cond.instanceMethod yX5_isPair, Cond.selects RX5 yX5_isPair yX5_isPair, Cond.code yX5_isPair cX5_isPair 2 (some .boolean), Cond.methodLink RX5 90 yX5_routeBits]
def wsX5_rank_r2 : List Cond := [Cond.instanceMethod yX5_routeBits, Cond.selects RX5 yX5_routeBits yX5_routeBits, Cond.code yX5_routeBits cX5_routeBits 5 (some .int), Cond.methodLink RX5 93 yX5_nextLink, Cond.instanceMethod yX5_nextLink, Cond.selects RX5 yX5_nextLink yX5_nextLink, Cond.code yX5_nextLink cX5_nextLink 4 (some .int), Cond.methodLink RX5 138 yX5_reduces, Cond.instanceMethod yX5_reduces, Cond.selects RX5 yX5_reduces yX5_reduces, Cond.code yX5_reduces cX5_reduces 5 none, Cond.fieldLink RX5 48 "TrafficMatrixModel" "row" "[J", Cond.fieldLink RX5 51 "TrafficMatrixModel" "pivotRow" "[I", Cond.methodLink RX5 124 yX5_laysOut, Cond.instanceMethod yX5_laysOut, Cond.selects RX5 yX5_laysOut yX5_laysOut, Cond.code yX5_laysOut cX5_laysOut 8 none, Cond.fieldLink RX5 31 "TrafficMatrixModel" "isMeasured" "[Z", Cond.fieldLink RX5 22 "TrafficMatrixModel" "load" "[I", Cond.fieldLink RX5 35 "TrafficMatrixModel" "measured" "[I", Cond.methodLink RX5 99 yX5_hasRoute, Cond.instanceMethod yX5_hasRoute, Cond.selects RX5 yX5_hasRoute yX5_hasRoute, Cond.code yX5_hasRoute cX5_hasRoute 2 (some .boolean)]
def wsX5_rank_r3 : List Cond := [Cond.methodLink RX5 105 yX5_uses, Cond.instanceMethod yX5_uses, Cond.selects RX5 yX5_uses yX5_uses, Cond.code yX5_uses cX5_uses 3 (some .boolean), Cond.methodLink RX5 130 yX5_exchanges, Cond.instanceMethod yX5_exchanges, Cond.selects RX5 yX5_exchanges yX5_exchanges, Cond.code yX5_exchanges cX5_exchanges 6 none, Cond.methodLink RX5 134 yX5_clears, Cond.instanceMethod yX5_clears, Cond.selects RX5 yX5_clears yX5_clears, Cond.code yX5_clears cX5_clears 9 none, Cond.methodLink RX5 120 yX5_shortens, Cond.instanceMethod yX5_shortens, Cond.selects RX5 yX5_shortens yX5_shortens, Cond.code yX5_shortens cX5_shortens 5 none, Cond.methodLink RX5 116 yX5_common, Cond.static yX5_common, Cond.code yX5_common cX5_common 10 (some .long)]
def wsX5_rank : List Cond := .code yX5_rank cX5_rank 1 (some .int) :: ((wsX5_rank_r1 ++ (wsX5_rank_r2 ++ wsX5_rank_r3)) ++ wsX50)
def wsX5_isConsistent_r1 : List Cond := [Cond.methodLink RX5 96 yX5_findRoutes, Cond.instanceMethod yX5_findRoutes, Cond.selects RX5 yX5_findRoutes yX5_findRoutes, Cond.initialized RX5, Cond.code yX5_findRoutes cX5_findRoutes 6 none, Cond.fieldLink RX5 42 "TrafficMatrixModel" "distance" "[I", Cond.constant RX5 82 (1000000), Cond.fieldLink RX5 68 "TrafficMatrixModel" "links" "I", Cond.fieldLink RX5 60 "TrafficMatrixModel" "nodes" "I", Cond.fieldLink RX5 13 "TrafficMatrixModel" "targetOf" "[I", Cond.fieldLink RX5 7 "TrafficMatrixModel" "sourceOf" "[I", Cond.fieldLink RX5 45 "TrafficMatrixModel" "bitsOf" "[I", Cond.methodLink RX5 83 yX5_costOf, Cond.instanceMethod yX5_costOf, Cond.selects RX5 yX5_costOf yX5_costOf, Cond.code yX5_costOf cX5_costOf 2 (some .int), Cond.fieldLink RX5 16 "TrafficMatrixModel" "metricOf" "[I", Cond.methodLink RX5 87 yX5_isPair, Cond.instanceMethod yX5_isPair, Cond.selects RX5 yX5_isPair yX5_isPair, Cond.code yX5_isPair cX5_isPair 2 (some .boolean), Cond.methodLink RX5 90 yX5_routeBits, Cond.instanceMethod yX5_routeBits, Cond.selects RX5 yX5_routeBits yX5_routeBits]
def wsX5_isConsistent_r2 : List Cond := [Cond.code yX5_routeBits cX5_routeBits 5 (some .int), Cond.methodLink RX5 93 yX5_nextLink, Cond.instanceMethod yX5_nextLink, Cond.selects RX5 yX5_nextLink yX5_nextLink, Cond.code yX5_nextLink cX5_nextLink 4 (some .int), Cond.methodLink RX5 138 yX5_reduces, Cond.instanceMethod yX5_reduces, Cond.selects RX5 yX5_reduces yX5_reduces, Cond.code yX5_reduces cX5_reduces 5 none, Cond.fieldLink RX5 127 "TrafficMatrixModel" "rows" "I", Cond.fieldLink RX5 48 "TrafficMatrixModel" "row" "[J", Cond.fieldLink RX5 51 "TrafficMatrixModel" "pivotRow" "[I", Cond.methodLink RX5 124 yX5_laysOut, Cond.instanceMethod yX5_laysOut, Cond.selects RX5 yX5_laysOut yX5_laysOut, Cond.code yX5_laysOut cX5_laysOut 8 none, Cond.fieldLink RX5 113 "TrafficMatrixModel" "known" "I", Cond.fieldLink RX5 31 "TrafficMatrixModel" "isMeasured" "[Z", Cond.fieldLink RX5 22 "TrafficMatrixModel" "load" "[I", Cond.fieldLink RX5 35 "TrafficMatrixModel" "measured" "[I", Cond.methodLink RX5 99 yX5_hasRoute, Cond.instanceMethod yX5_hasRoute, Cond.selects RX5 yX5_hasRoute yX5_hasRoute, Cond.code yX5_hasRoute cX5_hasRoute 2 (some .boolean)]
def wsX5_isConsistent_r3 : List Cond := [Cond.methodLink RX5 105 yX5_uses, Cond.instanceMethod yX5_uses, Cond.selects RX5 yX5_uses yX5_uses, Cond.code yX5_uses cX5_uses 3 (some .boolean), Cond.methodLink RX5 130 yX5_exchanges, Cond.instanceMethod yX5_exchanges, Cond.selects RX5 yX5_exchanges yX5_exchanges, Cond.code yX5_exchanges cX5_exchanges 6 none, Cond.methodLink RX5 134 yX5_clears, Cond.instanceMethod yX5_clears, Cond.selects RX5 yX5_clears yX5_clears, Cond.code yX5_clears cX5_clears 9 none, Cond.methodLink RX5 120 yX5_shortens, Cond.instanceMethod yX5_shortens, Cond.selects RX5 yX5_shortens yX5_shortens, Cond.code yX5_shortens cX5_shortens 5 none, Cond.methodLink RX5 116 yX5_common, Cond.static yX5_common, Cond.code yX5_common cX5_common 10 (some .long), Cond.methodLink RX5 144 yX5_agrees, Cond.instanceMethod yX5_agrees, Cond.selects RX5 yX5_agrees yX5_agrees, Cond.code yX5_agrees cX5_agrees 2 (some .boolean)]
def wsX5_isConsistent : List Cond := .code yX5_isConsistent cX5_isConsistent 1 (some .int) :: ((wsX5_isConsistent_r1 ++ (wsX5_isConsistent_r2 ++ wsX5_isConsistent_r3)) ++ wsX50)
def wsX5_isIdentifiable_r1 : List Cond := [Cond.methodLink RX5 102 yX5_refusedRoute, Cond.instanceMethod yX5_refusedRoute, Cond.selects RX5 yX5_refusedRoute yX5_refusedRoute, Cond.initialized RX5, Cond.code yX5_refusedRoute cX5_refusedRoute 4 (some .int), Cond.methodLink RX5 75 yX5_refused, Cond.instanceMethod yX5_refused, Cond.selects RX5 yX5_refused yX5_refused, Cond.code yX5_refused cX5_refused 3 (some .int), Cond.methodLink RX5 71 yX5_isNode, Cond.instanceMethod yX5_isNode, Cond.selects RX5 yX5_isNode yX5_isNode, Cond.code yX5_isNode cX5_isNode 2 (some .boolean), Cond.fieldLink RX5 60 "TrafficMatrixModel" "nodes" "I", Cond.methodLink RX5 64 yX5_within, Cond.static yX5_within, Cond.code yX5_within cX5_within 3 (some .boolean), Cond.methodLink RX5 96 yX5_findRoutes, Cond.instanceMethod yX5_findRoutes, Cond.selects RX5 yX5_findRoutes yX5_findRoutes, Cond.code yX5_findRoutes cX5_findRoutes 6 none, Cond.fieldLink RX5 42 "TrafficMatrixModel" "distance" "[I", Cond.constant RX5 82 (1000000), Cond.fieldLink RX5 68 "TrafficMatrixModel" "links" "I"]
def wsX5_isIdentifiable_r2 : List Cond := [Cond.fieldLink RX5 13 "TrafficMatrixModel" "targetOf" "[I", Cond.fieldLink RX5 7 "TrafficMatrixModel" "sourceOf" "[I", Cond.fieldLink RX5 45 "TrafficMatrixModel" "bitsOf" "[I", Cond.methodLink RX5 83 yX5_costOf, Cond.instanceMethod yX5_costOf, Cond.selects RX5 yX5_costOf yX5_costOf, Cond.code yX5_costOf cX5_costOf 2 (some .int), Cond.fieldLink RX5 16 "TrafficMatrixModel" "metricOf" "[I", Cond.methodLink RX5 87 yX5_isPair, Cond.instanceMethod yX5_isPair, Cond.selects RX5 yX5_isPair yX5_isPair, Cond.code yX5_isPair cX5_isPair 2 (some .boolean), Cond.methodLink RX5 90 yX5_routeBits, Cond.instanceMethod yX5_routeBits, Cond.selects RX5 yX5_routeBits yX5_routeBits, Cond.code yX5_routeBits cX5_routeBits 5 (some .int), Cond.methodLink RX5 93 yX5_nextLink, Cond.instanceMethod yX5_nextLink, Cond.selects RX5 yX5_nextLink yX5_nextLink, Cond.code yX5_nextLink cX5_nextLink 4 (some .int), Cond.methodLink RX5 99 yX5_hasRoute, Cond.instanceMethod yX5_hasRoute, Cond.selects RX5 yX5_hasRoute yX5_hasRoute, Cond.code yX5_hasRoute cX5_hasRoute 2 (some .boolean)]
def wsX5_isIdentifiable_r3 : List Cond := [Cond.methodLink RX5 138 yX5_reduces, Cond.instanceMethod yX5_reduces, Cond.selects RX5 yX5_reduces yX5_reduces, Cond.code yX5_reduces cX5_reduces 5 none, Cond.fieldLink RX5 127 "TrafficMatrixModel" "rows" "I", Cond.fieldLink RX5 48 "TrafficMatrixModel" "row" "[J", Cond.fieldLink RX5 51 "TrafficMatrixModel" "pivotRow" "[I", Cond.methodLink RX5 124 yX5_laysOut, Cond.instanceMethod yX5_laysOut, Cond.selects RX5 yX5_laysOut yX5_laysOut, Cond.code yX5_laysOut cX5_laysOut 8 none, Cond.fieldLink RX5 113 "TrafficMatrixModel" "known" "I", Cond.fieldLink RX5 31 "TrafficMatrixModel" "isMeasured" "[Z", Cond.fieldLink RX5 22 "TrafficMatrixModel" "load" "[I", Cond.fieldLink RX5 35 "TrafficMatrixModel" "measured" "[I", Cond.methodLink RX5 105 yX5_uses, Cond.instanceMethod yX5_uses, Cond.selects RX5 yX5_uses yX5_uses, Cond.code yX5_uses cX5_uses 3 (some .boolean), Cond.methodLink RX5 130 yX5_exchanges, Cond.instanceMethod yX5_exchanges, Cond.selects RX5 yX5_exchanges yX5_exchanges, Cond.code yX5_exchanges cX5_exchanges 6 none, Cond.methodLink RX5 134 yX5_clears]
def wsX5_isIdentifiable_r4 : List Cond := [Cond.instanceMethod yX5_clears, Cond.selects RX5 yX5_clears yX5_clears, Cond.code yX5_clears cX5_clears 9 none, Cond.methodLink RX5 120 yX5_shortens, Cond.instanceMethod yX5_shortens, Cond.selects RX5 yX5_shortens yX5_shortens, Cond.code yX5_shortens cX5_shortens 5 none, Cond.methodLink RX5 116 yX5_common, Cond.static yX5_common, Cond.code yX5_common cX5_common 10 (some .long), Cond.methodLink RX5 141 yX5_isSure, Cond.instanceMethod yX5_isSure, Cond.selects RX5 yX5_isSure yX5_isSure, Cond.code yX5_isSure cX5_isSure 5 (some .boolean)]
def wsX5_isIdentifiable : List Cond := .code yX5_isIdentifiable cX5_isIdentifiable 4 (some .int) :: ((wsX5_isIdentifiable_r1 ++ (wsX5_isIdentifiable_r2 ++ (wsX5_isIdentifiable_r3 ++ wsX5_isIdentifiable_r4))) ++ wsX50)
def wsX5_identifiableCount_r1 : List Cond := [Cond.methodLink RX5 96 yX5_findRoutes, Cond.instanceMethod yX5_findRoutes, Cond.selects RX5 yX5_findRoutes yX5_findRoutes, Cond.initialized RX5, Cond.code yX5_findRoutes cX5_findRoutes 6 none, Cond.fieldLink RX5 42 "TrafficMatrixModel" "distance" "[I", Cond.constant RX5 82 (1000000), Cond.fieldLink RX5 68 "TrafficMatrixModel" "links" "I", Cond.fieldLink RX5 60 "TrafficMatrixModel" "nodes" "I", Cond.fieldLink RX5 13 "TrafficMatrixModel" "targetOf" "[I", Cond.fieldLink RX5 7 "TrafficMatrixModel" "sourceOf" "[I", Cond.fieldLink RX5 45 "TrafficMatrixModel" "bitsOf" "[I", Cond.methodLink RX5 83 yX5_costOf, Cond.instanceMethod yX5_costOf, Cond.selects RX5 yX5_costOf yX5_costOf, Cond.code yX5_costOf cX5_costOf 2 (some .int), Cond.fieldLink RX5 16 "TrafficMatrixModel" "metricOf" "[I", Cond.methodLink RX5 87 yX5_isPair, Cond.instanceMethod yX5_isPair, Cond.selects RX5 yX5_isPair yX5_isPair, Cond.code yX5_isPair cX5_isPair 2 (some .boolean), Cond.methodLink RX5 90 yX5_routeBits, Cond.instanceMethod yX5_routeBits, Cond.selects RX5 yX5_routeBits yX5_routeBits]
def wsX5_identifiableCount_r2 : List Cond := [Cond.code yX5_routeBits cX5_routeBits 5 (some .int), Cond.methodLink RX5 93 yX5_nextLink, Cond.instanceMethod yX5_nextLink, Cond.selects RX5 yX5_nextLink yX5_nextLink, Cond.code yX5_nextLink cX5_nextLink 4 (some .int), Cond.methodLink RX5 148 yX5_sureCount, Cond.instanceMethod yX5_sureCount, Cond.selects RX5 yX5_sureCount yX5_sureCount, Cond.code yX5_sureCount cX5_sureCount 4 (some .int), Cond.methodLink RX5 138 yX5_reduces, Cond.instanceMethod yX5_reduces, Cond.selects RX5 yX5_reduces yX5_reduces, Cond.code yX5_reduces cX5_reduces 5 none, Cond.fieldLink RX5 127 "TrafficMatrixModel" "rows" "I", Cond.fieldLink RX5 48 "TrafficMatrixModel" "row" "[J", Cond.fieldLink RX5 51 "TrafficMatrixModel" "pivotRow" "[I", Cond.methodLink RX5 124 yX5_laysOut, Cond.instanceMethod yX5_laysOut, Cond.selects RX5 yX5_laysOut yX5_laysOut, Cond.code yX5_laysOut cX5_laysOut 8 none, Cond.fieldLink RX5 113 "TrafficMatrixModel" "known" "I", Cond.fieldLink RX5 31 "TrafficMatrixModel" "isMeasured" "[Z", Cond.fieldLink RX5 22 "TrafficMatrixModel" "load" "[I", Cond.fieldLink RX5 35 "TrafficMatrixModel" "measured" "[I"]
def wsX5_identifiableCount_r3 : List Cond := [Cond.methodLink RX5 99 yX5_hasRoute, Cond.instanceMethod yX5_hasRoute, Cond.selects RX5 yX5_hasRoute yX5_hasRoute, Cond.code yX5_hasRoute cX5_hasRoute 2 (some .boolean), Cond.methodLink RX5 105 yX5_uses, Cond.instanceMethod yX5_uses, Cond.selects RX5 yX5_uses yX5_uses, Cond.code yX5_uses cX5_uses 3 (some .boolean), Cond.methodLink RX5 130 yX5_exchanges, Cond.instanceMethod yX5_exchanges, Cond.selects RX5 yX5_exchanges yX5_exchanges, Cond.code yX5_exchanges cX5_exchanges 6 none, Cond.methodLink RX5 134 yX5_clears, Cond.instanceMethod yX5_clears, Cond.selects RX5 yX5_clears yX5_clears, Cond.code yX5_clears cX5_clears 9 none, Cond.methodLink RX5 120 yX5_shortens, Cond.instanceMethod yX5_shortens, Cond.selects RX5 yX5_shortens yX5_shortens, Cond.code yX5_shortens cX5_shortens 5 none, Cond.methodLink RX5 116 yX5_common, Cond.static yX5_common, Cond.code yX5_common cX5_common 10 (some .long), Cond.methodLink RX5 141 yX5_isSure]
def wsX5_identifiableCount_r4 : List Cond := [Cond.instanceMethod yX5_isSure, Cond.selects RX5 yX5_isSure yX5_isSure, Cond.code yX5_isSure cX5_isSure 5 (some .boolean)]
def wsX5_identifiableCount : List Cond := .code yX5_identifiableCount cX5_identifiableCount 1 (some .int) :: ((wsX5_identifiableCount_r1 ++ (wsX5_identifiableCount_r2 ++ (wsX5_identifiableCount_r3 ++ wsX5_identifiableCount_r4))) ++ wsX50)
def wsX5_identified_r1 : List Cond := [Cond.constantLong RX5 151 (-9223372036854775808), Cond.fieldLink RX5 31 "TrafficMatrixModel" "isMeasured" "[Z", Cond.fieldLink RX5 35 "TrafficMatrixModel" "measured" "[I", Cond.fieldLink RX5 48 "TrafficMatrixModel" "row" "[J", Cond.fieldLink RX5 51 "TrafficMatrixModel" "pivotRow" "[I", Cond.constantLong RX5 153 (-1), Cond.methodLink RX5 102 yX5_refusedRoute, Cond.instanceMethod yX5_refusedRoute, Cond.selects RX5 yX5_refusedRoute yX5_refusedRoute, Cond.initialized RX5, Cond.code yX5_refusedRoute cX5_refusedRoute 4 (some .int), Cond.methodLink RX5 75 yX5_refused, Cond.instanceMethod yX5_refused, Cond.selects RX5 yX5_refused yX5_refused, Cond.code yX5_refused cX5_refused 3 (some .int), Cond.methodLink RX5 71 yX5_isNode, Cond.instanceMethod yX5_isNode, Cond.selects RX5 yX5_isNode yX5_isNode, Cond.code yX5_isNode cX5_isNode 2 (some .boolean), Cond.fieldLink RX5 60 "TrafficMatrixModel" "nodes" "I", Cond.methodLink RX5 64 yX5_within, Cond.static yX5_within, Cond.code yX5_within cX5_within 3 (some .boolean), Cond.methodLink RX5 96 yX5_findRoutes]
def wsX5_identified_r2 : List Cond := [Cond.instanceMethod yX5_findRoutes, Cond.selects RX5 yX5_findRoutes yX5_findRoutes, Cond.code yX5_findRoutes cX5_findRoutes 6 none, Cond.fieldLink RX5 42 "TrafficMatrixModel" "distance" "[I", Cond.constant RX5 82 (1000000), Cond.fieldLink RX5 68 "TrafficMatrixModel" "links" "I", Cond.fieldLink RX5 13 "TrafficMatrixModel" "targetOf" "[I", Cond.fieldLink RX5 7 "TrafficMatrixModel" "sourceOf" "[I", Cond.fieldLink RX5 45 "TrafficMatrixModel" "bitsOf" "[I", Cond.methodLink RX5 83 yX5_costOf, Cond.instanceMethod yX5_costOf, Cond.selects RX5 yX5_costOf yX5_costOf, Cond.code yX5_costOf cX5_costOf 2 (some .int), Cond.fieldLink RX5 16 "TrafficMatrixModel" "metricOf" "[I", Cond.methodLink RX5 87 yX5_isPair, Cond.instanceMethod yX5_isPair, Cond.selects RX5 yX5_isPair yX5_isPair, Cond.code yX5_isPair cX5_isPair 2 (some .boolean), Cond.methodLink RX5 90 yX5_routeBits, Cond.instanceMethod yX5_routeBits, Cond.selects RX5 yX5_routeBits yX5_routeBits, Cond.code yX5_routeBits cX5_routeBits 5 (some .int), Cond.methodLink RX5 93 yX5_nextLink, Cond.instanceMethod yX5_nextLink]
def wsX5_identified_r3 : List Cond := [Cond.selects RX5 yX5_nextLink yX5_nextLink, Cond.code yX5_nextLink cX5_nextLink 4 (some .int), Cond.methodLink RX5 99 yX5_hasRoute, Cond.instanceMethod yX5_hasRoute, Cond.selects RX5 yX5_hasRoute yX5_hasRoute, Cond.code yX5_hasRoute cX5_hasRoute 2 (some .boolean), Cond.methodLink RX5 138 yX5_reduces, Cond.instanceMethod yX5_reduces, Cond.selects RX5 yX5_reduces yX5_reduces, Cond.code yX5_reduces cX5_reduces 5 none, Cond.fieldLink RX5 127 "TrafficMatrixModel" "rows" "I", Cond.methodLink RX5 124 yX5_laysOut, Cond.instanceMethod yX5_laysOut, Cond.selects RX5 yX5_laysOut yX5_laysOut, Cond.code yX5_laysOut cX5_laysOut 8 none, Cond.fieldLink RX5 113 "TrafficMatrixModel" "known" "I", Cond.fieldLink RX5 22 "TrafficMatrixModel" "load" "[I", Cond.methodLink RX5 105 yX5_uses, Cond.instanceMethod yX5_uses, Cond.selects RX5 yX5_uses yX5_uses, Cond.code yX5_uses cX5_uses 3 (some .boolean), Cond.methodLink RX5 130 yX5_exchanges, Cond.instanceMethod yX5_exchanges, Cond.selects RX5 yX5_exchanges yX5_exchanges]
def wsX5_identified_r4 : List Cond := [Cond.code yX5_exchanges cX5_exchanges 6 none, Cond.methodLink RX5 134 yX5_clears, Cond.instanceMethod yX5_clears, Cond.selects RX5 yX5_clears yX5_clears, Cond.code yX5_clears cX5_clears 9 none, Cond.methodLink RX5 120 yX5_shortens, Cond.instanceMethod yX5_shortens, Cond.selects RX5 yX5_shortens yX5_shortens, Cond.code yX5_shortens cX5_shortens 5 none, Cond.methodLink RX5 116 yX5_common, Cond.static yX5_common, Cond.code yX5_common cX5_common 10 (some .long), Cond.methodLink RX5 141 yX5_isSure, Cond.instanceMethod yX5_isSure, Cond.selects RX5 yX5_isSure yX5_isSure, Cond.code yX5_isSure cX5_isSure 5 (some .boolean), Cond.methodLink RX5 144 yX5_agrees, Cond.instanceMethod yX5_agrees, Cond.selects RX5 yX5_agrees yX5_agrees, Cond.code yX5_agrees cX5_agrees 2 (some .boolean)]
def wsX5_identified : List Cond := .code yX5_identified cX5_identified 13 (some .long) :: ((wsX5_identified_r1 ++ (wsX5_identified_r2 ++ (wsX5_identified_r3 ++ wsX5_identified_r4))) ++ wsX50)
def wsX5_identifiedNumerator_r1 : List Cond := [Cond.methodLink RX5 155 yX5_identified, Cond.instanceMethod yX5_identified, Cond.selects RX5 yX5_identified yX5_identified, Cond.initialized RX5, Cond.code yX5_identified cX5_identified 13 (some .long), Cond.constantLong RX5 151 (-9223372036854775808), Cond.fieldLink RX5 31 "TrafficMatrixModel" "isMeasured" "[Z", Cond.fieldLink RX5 35 "TrafficMatrixModel" "measured" "[I", Cond.fieldLink RX5 48 "TrafficMatrixModel" "row" "[J", Cond.fieldLink RX5 51 "TrafficMatrixModel" "pivotRow" "[I", Cond.constantLong RX5 153 (-1), Cond.methodLink RX5 102 yX5_refusedRoute, Cond.instanceMethod yX5_refusedRoute, Cond.selects RX5 yX5_refusedRoute yX5_refusedRoute, Cond.code yX5_refusedRoute cX5_refusedRoute 4 (some .int), Cond.methodLink RX5 75 yX5_refused, Cond.instanceMethod yX5_refused, Cond.selects RX5 yX5_refused yX5_refused, Cond.code yX5_refused cX5_refused 3 (some .int), Cond.methodLink RX5 71 yX5_isNode, Cond.instanceMethod yX5_isNode, Cond.selects RX5 yX5_isNode yX5_isNode, Cond.code yX5_isNode cX5_isNode 2 (some .boolean), Cond.fieldLink RX5 60 "TrafficMatrixModel" "nodes" "I"]
def wsX5_identifiedNumerator_r2 : List Cond := [Cond.methodLink RX5 64 yX5_within, Cond.static yX5_within, Cond.code yX5_within cX5_within 3 (some .boolean), Cond.methodLink RX5 96 yX5_findRoutes, Cond.instanceMethod yX5_findRoutes, Cond.selects RX5 yX5_findRoutes yX5_findRoutes, Cond.code yX5_findRoutes cX5_findRoutes 6 none, Cond.fieldLink RX5 42 "TrafficMatrixModel" "distance" "[I", Cond.constant RX5 82 (1000000), Cond.fieldLink RX5 68 "TrafficMatrixModel" "links" "I", Cond.fieldLink RX5 13 "TrafficMatrixModel" "targetOf" "[I", Cond.fieldLink RX5 7 "TrafficMatrixModel" "sourceOf" "[I", Cond.fieldLink RX5 45 "TrafficMatrixModel" "bitsOf" "[I", Cond.methodLink RX5 83 yX5_costOf, Cond.instanceMethod yX5_costOf, Cond.selects RX5 yX5_costOf yX5_costOf, Cond.code yX5_costOf cX5_costOf 2 (some .int), Cond.fieldLink RX5 16 "TrafficMatrixModel" "metricOf" "[I", Cond.methodLink RX5 87 yX5_isPair, Cond.instanceMethod yX5_isPair, Cond.selects RX5 yX5_isPair yX5_isPair, Cond.code yX5_isPair cX5_isPair 2 (some .boolean), Cond.methodLink RX5 90 yX5_routeBits, Cond.instanceMethod yX5_routeBits]
def wsX5_identifiedNumerator_r3 : List Cond := [Cond.selects RX5 yX5_routeBits yX5_routeBits, Cond.code yX5_routeBits cX5_routeBits 5 (some .int), Cond.methodLink RX5 93 yX5_nextLink, Cond.instanceMethod yX5_nextLink, Cond.selects RX5 yX5_nextLink yX5_nextLink, Cond.code yX5_nextLink cX5_nextLink 4 (some .int), Cond.methodLink RX5 99 yX5_hasRoute, Cond.instanceMethod yX5_hasRoute, Cond.selects RX5 yX5_hasRoute yX5_hasRoute, Cond.code yX5_hasRoute cX5_hasRoute 2 (some .boolean), Cond.methodLink RX5 138 yX5_reduces, Cond.instanceMethod yX5_reduces, Cond.selects RX5 yX5_reduces yX5_reduces, Cond.code yX5_reduces cX5_reduces 5 none, Cond.fieldLink RX5 127 "TrafficMatrixModel" "rows" "I", Cond.methodLink RX5 124 yX5_laysOut, Cond.instanceMethod yX5_laysOut, Cond.selects RX5 yX5_laysOut yX5_laysOut, Cond.code yX5_laysOut cX5_laysOut 8 none, Cond.fieldLink RX5 113 "TrafficMatrixModel" "known" "I", Cond.fieldLink RX5 22 "TrafficMatrixModel" "load" "[I", Cond.methodLink RX5 105 yX5_uses, Cond.instanceMethod yX5_uses, Cond.selects RX5 yX5_uses yX5_uses]
def wsX5_identifiedNumerator_r4 : List Cond := [Cond.code yX5_uses cX5_uses 3 (some .boolean), Cond.methodLink RX5 130 yX5_exchanges, Cond.instanceMethod yX5_exchanges, Cond.selects RX5 yX5_exchanges yX5_exchanges, Cond.code yX5_exchanges cX5_exchanges 6 none, Cond.methodLink RX5 134 yX5_clears, Cond.instanceMethod yX5_clears, Cond.selects RX5 yX5_clears yX5_clears, Cond.code yX5_clears cX5_clears 9 none, Cond.methodLink RX5 120 yX5_shortens, Cond.instanceMethod yX5_shortens, Cond.selects RX5 yX5_shortens yX5_shortens, Cond.code yX5_shortens cX5_shortens 5 none, Cond.methodLink RX5 116 yX5_common, Cond.static yX5_common, Cond.code yX5_common cX5_common 10 (some .long), Cond.methodLink RX5 141 yX5_isSure, Cond.instanceMethod yX5_isSure, Cond.selects RX5 yX5_isSure yX5_isSure, Cond.code yX5_isSure cX5_isSure 5 (some .boolean), Cond.methodLink RX5 144 yX5_agrees, Cond.instanceMethod yX5_agrees, Cond.selects RX5 yX5_agrees yX5_agrees, Cond.code yX5_agrees cX5_agrees 2 (some .boolean)]
def wsX5_identifiedNumerator : List Cond := .code yX5_identifiedNumerator cX5_identifiedNumerator 3 (some .long) :: ((wsX5_identifiedNumerator_r1 ++ (wsX5_identifiedNumerator_r2 ++ (wsX5_identifiedNumerator_r3 ++ wsX5_identifiedNumerator_r4))) ++ wsX50)
def wsX5_identifiedDenominator_r1 : List Cond := [Cond.methodLink RX5 155 yX5_identified, Cond.instanceMethod yX5_identified, Cond.selects RX5 yX5_identified yX5_identified, Cond.initialized RX5, Cond.code yX5_identified cX5_identified 13 (some .long), Cond.constantLong RX5 151 (-9223372036854775808), Cond.fieldLink RX5 31 "TrafficMatrixModel" "isMeasured" "[Z", Cond.fieldLink RX5 35 "TrafficMatrixModel" "measured" "[I", Cond.fieldLink RX5 48 "TrafficMatrixModel" "row" "[J", Cond.fieldLink RX5 51 "TrafficMatrixModel" "pivotRow" "[I", Cond.constantLong RX5 153 (-1), Cond.methodLink RX5 102 yX5_refusedRoute, Cond.instanceMethod yX5_refusedRoute, Cond.selects RX5 yX5_refusedRoute yX5_refusedRoute, Cond.code yX5_refusedRoute cX5_refusedRoute 4 (some .int), Cond.methodLink RX5 75 yX5_refused, Cond.instanceMethod yX5_refused, Cond.selects RX5 yX5_refused yX5_refused, Cond.code yX5_refused cX5_refused 3 (some .int), Cond.methodLink RX5 71 yX5_isNode, Cond.instanceMethod yX5_isNode, Cond.selects RX5 yX5_isNode yX5_isNode, Cond.code yX5_isNode cX5_isNode 2 (some .boolean), Cond.fieldLink RX5 60 "TrafficMatrixModel" "nodes" "I"]
def wsX5_identifiedDenominator_r2 : List Cond := [Cond.methodLink RX5 64 yX5_within, Cond.static yX5_within, Cond.code yX5_within cX5_within 3 (some .boolean), Cond.methodLink RX5 96 yX5_findRoutes, Cond.instanceMethod yX5_findRoutes, Cond.selects RX5 yX5_findRoutes yX5_findRoutes, Cond.code yX5_findRoutes cX5_findRoutes 6 none, Cond.fieldLink RX5 42 "TrafficMatrixModel" "distance" "[I", Cond.constant RX5 82 (1000000), Cond.fieldLink RX5 68 "TrafficMatrixModel" "links" "I", Cond.fieldLink RX5 13 "TrafficMatrixModel" "targetOf" "[I", Cond.fieldLink RX5 7 "TrafficMatrixModel" "sourceOf" "[I", Cond.fieldLink RX5 45 "TrafficMatrixModel" "bitsOf" "[I", Cond.methodLink RX5 83 yX5_costOf, Cond.instanceMethod yX5_costOf, Cond.selects RX5 yX5_costOf yX5_costOf, Cond.code yX5_costOf cX5_costOf 2 (some .int), Cond.fieldLink RX5 16 "TrafficMatrixModel" "metricOf" "[I", Cond.methodLink RX5 87 yX5_isPair, Cond.instanceMethod yX5_isPair, Cond.selects RX5 yX5_isPair yX5_isPair, Cond.code yX5_isPair cX5_isPair 2 (some .boolean), Cond.methodLink RX5 90 yX5_routeBits, Cond.instanceMethod yX5_routeBits]
def wsX5_identifiedDenominator_r3 : List Cond := [Cond.selects RX5 yX5_routeBits yX5_routeBits, Cond.code yX5_routeBits cX5_routeBits 5 (some .int), Cond.methodLink RX5 93 yX5_nextLink, Cond.instanceMethod yX5_nextLink, Cond.selects RX5 yX5_nextLink yX5_nextLink, Cond.code yX5_nextLink cX5_nextLink 4 (some .int), Cond.methodLink RX5 99 yX5_hasRoute, Cond.instanceMethod yX5_hasRoute, Cond.selects RX5 yX5_hasRoute yX5_hasRoute, Cond.code yX5_hasRoute cX5_hasRoute 2 (some .boolean), Cond.methodLink RX5 138 yX5_reduces, Cond.instanceMethod yX5_reduces, Cond.selects RX5 yX5_reduces yX5_reduces, Cond.code yX5_reduces cX5_reduces 5 none, Cond.fieldLink RX5 127 "TrafficMatrixModel" "rows" "I", Cond.methodLink RX5 124 yX5_laysOut, Cond.instanceMethod yX5_laysOut, Cond.selects RX5 yX5_laysOut yX5_laysOut, Cond.code yX5_laysOut cX5_laysOut 8 none, Cond.fieldLink RX5 113 "TrafficMatrixModel" "known" "I", Cond.fieldLink RX5 22 "TrafficMatrixModel" "load" "[I", Cond.methodLink RX5 105 yX5_uses, Cond.instanceMethod yX5_uses, Cond.selects RX5 yX5_uses yX5_uses]
def wsX5_identifiedDenominator_r4 : List Cond := [Cond.code yX5_uses cX5_uses 3 (some .boolean), Cond.methodLink RX5 130 yX5_exchanges, Cond.instanceMethod yX5_exchanges, Cond.selects RX5 yX5_exchanges yX5_exchanges, Cond.code yX5_exchanges cX5_exchanges 6 none, Cond.methodLink RX5 134 yX5_clears, Cond.instanceMethod yX5_clears, Cond.selects RX5 yX5_clears yX5_clears, Cond.code yX5_clears cX5_clears 9 none, Cond.methodLink RX5 120 yX5_shortens, Cond.instanceMethod yX5_shortens, Cond.selects RX5 yX5_shortens yX5_shortens, Cond.code yX5_shortens cX5_shortens 5 none, Cond.methodLink RX5 116 yX5_common, Cond.static yX5_common, Cond.code yX5_common cX5_common 10 (some .long), Cond.methodLink RX5 141 yX5_isSure, Cond.instanceMethod yX5_isSure, Cond.selects RX5 yX5_isSure yX5_isSure, Cond.code yX5_isSure cX5_isSure 5 (some .boolean), Cond.methodLink RX5 144 yX5_agrees, Cond.instanceMethod yX5_agrees, Cond.selects RX5 yX5_agrees yX5_agrees, Cond.code yX5_agrees cX5_agrees 2 (some .boolean)]
def wsX5_identifiedDenominator : List Cond := .code yX5_identifiedDenominator cX5_identifiedDenominator 3 (some .long) :: ((wsX5_identifiedDenominator_r1 ++ (wsX5_identifiedDenominator_r2 ++ (wsX5_identifiedDenominator_r3 ++ wsX5_identifiedDenominator_r4))) ++ wsX50)
def wsX5_bestPair_r1 : List Cond := [Cond.fieldLink RX5 54 "TrafficMatrixModel" "wasSure" "[Z", Cond.methodLink RX5 96 yX5_findRoutes, Cond.instanceMethod yX5_findRoutes, Cond.selects RX5 yX5_findRoutes yX5_findRoutes, Cond.initialized RX5, Cond.code yX5_findRoutes cX5_findRoutes 6 none, Cond.fieldLink RX5 42 "TrafficMatrixModel" "distance" "[I", Cond.constant RX5 82 (1000000), Cond.fieldLink RX5 68 "TrafficMatrixModel" "links" "I", Cond.fieldLink RX5 60 "TrafficMatrixModel" "nodes" "I", Cond.fieldLink RX5 13 "TrafficMatrixModel" "targetOf" "[I", Cond.fieldLink RX5 7 "TrafficMatrixModel" "sourceOf" "[I", Cond.fieldLink RX5 45 "TrafficMatrixModel" "bitsOf" "[I", Cond.methodLink RX5 83 yX5_costOf, Cond.instanceMethod yX5_costOf, Cond.selects RX5 yX5_costOf yX5_costOf, Cond.code yX5_costOf cX5_costOf 2 (some .int), Cond.fieldLink RX5 16 "TrafficMatrixModel" "metricOf" "[I", Cond.methodLink RX5 87 yX5_isPair, Cond.instanceMethod yX5_isPair, Cond.selects RX5 yX5_isPair yX5_isPair, Cond.code yX5_isPair cX5_isPair 2 (some .boolean), Cond.methodLink RX5 90 yX5_routeBits, Cond.instanceMethod yX5_routeBits]
def wsX5_bestPair_r2 : List Cond := [Cond.selects RX5 yX5_routeBits yX5_routeBits, Cond.code yX5_routeBits cX5_routeBits 5 (some .int), Cond.methodLink RX5 93 yX5_nextLink, Cond.instanceMethod yX5_nextLink, Cond.selects RX5 yX5_nextLink yX5_nextLink, Cond.code yX5_nextLink cX5_nextLink 4 (some .int), Cond.methodLink RX5 138 yX5_reduces, Cond.instanceMethod yX5_reduces, Cond.selects RX5 yX5_reduces yX5_reduces, Cond.code yX5_reduces cX5_reduces 5 none, Cond.fieldLink RX5 127 "TrafficMatrixModel" "rows" "I", Cond.fieldLink RX5 48 "TrafficMatrixModel" "row" "[J", Cond.fieldLink RX5 51 "TrafficMatrixModel" "pivotRow" "[I", Cond.methodLink RX5 124 yX5_laysOut, Cond.instanceMethod yX5_laysOut, Cond.selects RX5 yX5_laysOut yX5_laysOut, Cond.code yX5_laysOut cX5_laysOut 8 none, Cond.fieldLink RX5 113 "TrafficMatrixModel" "known" "I", Cond.fieldLink RX5 31 "TrafficMatrixModel" "isMeasured" "[Z", Cond.fieldLink RX5 22 "TrafficMatrixModel" "load" "[I", Cond.fieldLink RX5 35 "TrafficMatrixModel" "measured" "[I", Cond.methodLink RX5 99 yX5_hasRoute, Cond.instanceMethod yX5_hasRoute, Cond.selects RX5 yX5_hasRoute yX5_hasRoute]
def wsX5_bestPair_r3 : List Cond := [Cond.code yX5_hasRoute cX5_hasRoute 2 (some .boolean), Cond.methodLink RX5 105 yX5_uses, Cond.instanceMethod yX5_uses, Cond.selects RX5 yX5_uses yX5_uses, Cond.code yX5_uses cX5_uses 3 (some .boolean), Cond.methodLink RX5 130 yX5_exchanges, Cond.instanceMethod yX5_exchanges, Cond.selects RX5 yX5_exchanges yX5_exchanges, Cond.code yX5_exchanges cX5_exchanges 6 none, Cond.methodLink RX5 134 yX5_clears, Cond.instanceMethod yX5_clears, Cond.selects RX5 yX5_clears yX5_clears, Cond.code yX5_clears cX5_clears 9 none, Cond.methodLink RX5 120 yX5_shortens, Cond.instanceMethod yX5_shortens, Cond.selects RX5 yX5_shortens yX5_shortens, Cond.code yX5_shortens cX5_shortens 5 none, Cond.methodLink RX5 116 yX5_common, Cond.static yX5_common, Cond.code yX5_common cX5_common 10 (some .long), Cond.methodLink RX5 141 yX5_isSure, Cond.instanceMethod yX5_isSure, Cond.selects RX5 yX5_isSure yX5_isSure, Cond.code yX5_isSure cX5_isSure 5 (some .boolean)]
def wsX5_bestPair_r4 : List Cond := [Cond.methodLink RX5 148 yX5_sureCount, Cond.instanceMethod yX5_sureCount, Cond.selects RX5 yX5_sureCount yX5_sureCount, Cond.code yX5_sureCount cX5_sureCount 4 (some .int)]
def wsX5_bestPair : List Cond := .code yX5_bestPair cX5_bestPair 5 (some .int) :: ((wsX5_bestPair_r1 ++ (wsX5_bestPair_r2 ++ (wsX5_bestPair_r3 ++ wsX5_bestPair_r4))) ++ wsX50)
def wsX5_applyGravity_r1 : List Cond := [Cond.fieldLink RX5 60 "TrafficMatrixModel" "nodes" "I", Cond.fieldLink RX5 25 "TrafficMatrixModel" "outOf" "[I", Cond.fieldLink RX5 38 "TrafficMatrixModel" "guess" "[J", Cond.fieldLink RX5 28 "TrafficMatrixModel" "inOf" "[I", Cond.constantLong RX5 159 (1000), Cond.methodLink RX5 96 yX5_findRoutes, Cond.instanceMethod yX5_findRoutes, Cond.selects RX5 yX5_findRoutes yX5_findRoutes, Cond.initialized RX5, Cond.code yX5_findRoutes cX5_findRoutes 6 none, Cond.fieldLink RX5 42 "TrafficMatrixModel" "distance" "[I", Cond.constant RX5 82 (1000000), Cond.fieldLink RX5 68 "TrafficMatrixModel" "links" "I", Cond.fieldLink RX5 13 "TrafficMatrixModel" "targetOf" "[I", Cond.fieldLink RX5 7 "TrafficMatrixModel" "sourceOf" "[I", Cond.fieldLink RX5 45 "TrafficMatrixModel" "bitsOf" "[I", Cond.methodLink RX5 83 yX5_costOf, Cond.instanceMethod yX5_costOf, Cond.selects RX5 yX5_costOf yX5_costOf, Cond.code yX5_costOf cX5_costOf 2 (some .int), Cond.fieldLink RX5 16 "TrafficMatrixModel" "metricOf" "[I", Cond.methodLink RX5 87 yX5_isPair, Cond.instanceMethod yX5_isPair, Cond.selects RX5 yX5_isPair yX5_isPair]
def wsX5_applyGravity_r2 : List Cond := [Cond.code yX5_isPair cX5_isPair 2 (some .boolean), Cond.methodLink RX5 90 yX5_routeBits, Cond.instanceMethod yX5_routeBits, Cond.selects RX5 yX5_routeBits yX5_routeBits, Cond.code yX5_routeBits cX5_routeBits 5 (some .int), Cond.methodLink RX5 93 yX5_nextLink, Cond.instanceMethod yX5_nextLink, Cond.selects RX5 yX5_nextLink yX5_nextLink, Cond.code yX5_nextLink cX5_nextLink 4 (some .int), Cond.methodLink RX5 99 yX5_hasRoute, Cond.instanceMethod yX5_hasRoute, Cond.selects RX5 yX5_hasRoute yX5_hasRoute, Cond.code yX5_hasRoute cX5_hasRoute 2 (some .boolean)]
def wsX5_applyGravity : List Cond := .code yX5_applyGravity cX5_applyGravity 5 (some .int) :: ((wsX5_applyGravity_r1 ++ wsX5_applyGravity_r2) ++ wsX50)
def wsX5_keeps_r1 : List Cond := [Cond.fieldLink RX5 57 "TrafficMatrixModel" "before" "[J", Cond.fieldLink RX5 38 "TrafficMatrixModel" "guess" "[J", Cond.methodLink RX5 96 yX5_findRoutes, Cond.instanceMethod yX5_findRoutes, Cond.selects RX5 yX5_findRoutes yX5_findRoutes, Cond.initialized RX5, Cond.code yX5_findRoutes cX5_findRoutes 6 none, Cond.fieldLink RX5 42 "TrafficMatrixModel" "distance" "[I", Cond.constant RX5 82 (1000000), Cond.fieldLink RX5 68 "TrafficMatrixModel" "links" "I", Cond.fieldLink RX5 60 "TrafficMatrixModel" "nodes" "I", Cond.fieldLink RX5 13 "TrafficMatrixModel" "targetOf" "[I", Cond.fieldLink RX5 7 "TrafficMatrixModel" "sourceOf" "[I", Cond.fieldLink RX5 45 "TrafficMatrixModel" "bitsOf" "[I", Cond.methodLink RX5 83 yX5_costOf, Cond.instanceMethod yX5_costOf, Cond.selects RX5 yX5_costOf yX5_costOf, Cond.code yX5_costOf cX5_costOf 2 (some .int), Cond.fieldLink RX5 16 "TrafficMatrixModel" "metricOf" "[I", Cond.methodLink RX5 87 yX5_isPair, Cond.instanceMethod yX5_isPair, Cond.selects RX5 yX5_isPair yX5_isPair, Cond.code yX5_isPair cX5_isPair 2 (some .boolean), Cond.methodLink RX5 90 yX5_routeBits]
def wsX5_keeps_r2 : List Cond := [Cond.instanceMethod yX5_routeBits, Cond.selects RX5 yX5_routeBits yX5_routeBits, Cond.code yX5_routeBits cX5_routeBits 5 (some .int), Cond.methodLink RX5 93 yX5_nextLink, Cond.instanceMethod yX5_nextLink, Cond.selects RX5 yX5_nextLink yX5_nextLink, Cond.code yX5_nextLink cX5_nextLink 4 (some .int), Cond.methodLink RX5 99 yX5_hasRoute, Cond.instanceMethod yX5_hasRoute, Cond.selects RX5 yX5_hasRoute yX5_hasRoute, Cond.code yX5_hasRoute cX5_hasRoute 2 (some .boolean)]
def wsX5_keeps : List Cond := .code yX5_keeps cX5_keeps 2 none :: ((wsX5_keeps_r1 ++ wsX5_keeps_r2) ++ wsX50)
def wsX5_changed : List Cond := .code yX5_changed cX5_changed 3 (some .int) :: ([.fieldLink RX5 38 "TrafficMatrixModel" "guess" "[J", .fieldLink RX5 57 "TrafficMatrixModel" "before" "[J"] ++ wsX50)
def wsX5_isOf : List Cond := .code yX5_isOf cX5_isOf 4 (some .boolean) :: ([.methodLink RX5 105 yX5_uses, .instanceMethod yX5_uses, .selects RX5 yX5_uses yX5_uses, .initialized RX5, .code yX5_uses cX5_uses 3 (some .boolean), .fieldLink RX5 45 "TrafficMatrixModel" "bitsOf" "[I"] ++ wsX50)
def wsX5_sumOf : List Cond := .code yX5_sumOf cX5_sumOf 6 (some .long) :: ([.fieldLink RX5 38 "TrafficMatrixModel" "guess" "[J", .methodLink RX5 161 yX5_isOf, .instanceMethod yX5_isOf, .selects RX5 yX5_isOf yX5_isOf, .initialized RX5, .code yX5_isOf cX5_isOf 4 (some .boolean), .methodLink RX5 105 yX5_uses, .instanceMethod yX5_uses, .selects RX5 yX5_uses yX5_uses, .code yX5_uses cX5_uses 3 (some .boolean), .fieldLink RX5 45 "TrafficMatrixModel" "bitsOf" "[I"] ++ wsX50)
def wsX5_fits : List Cond := .code yX5_fits cX5_fits 7 none :: ([.fieldLink RX5 38 "TrafficMatrixModel" "guess" "[J", .constantLong RX5 159 (1000), .methodLink RX5 164 yX5_sumOf, .instanceMethod yX5_sumOf, .selects RX5 yX5_sumOf yX5_sumOf, .initialized RX5, .code yX5_sumOf cX5_sumOf 6 (some .long), .methodLink RX5 161 yX5_isOf, .instanceMethod yX5_isOf, .selects RX5 yX5_isOf yX5_isOf, .code yX5_isOf cX5_isOf 4 (some .boolean), .methodLink RX5 105 yX5_uses, .instanceMethod yX5_uses, .selects RX5 yX5_uses yX5_uses, .code yX5_uses cX5_uses 3 (some .boolean), .fieldLink RX5 45 "TrafficMatrixModel" "bitsOf" "[I"] ++ wsX50)
def wsX5_fitTotals_r1 : List Cond := [Cond.fieldLink RX5 60 "TrafficMatrixModel" "nodes" "I", Cond.fieldLink RX5 25 "TrafficMatrixModel" "outOf" "[I", Cond.fieldLink RX5 28 "TrafficMatrixModel" "inOf" "[I", Cond.methodLink RX5 64 yX5_within, Cond.static yX5_within, Cond.initialized RX5, Cond.code yX5_within cX5_within 3 (some .boolean), Cond.methodLink RX5 168 yX5_keeps, Cond.instanceMethod yX5_keeps, Cond.selects RX5 yX5_keeps yX5_keeps, Cond.code yX5_keeps cX5_keeps 2 none, Cond.fieldLink RX5 57 "TrafficMatrixModel" "before" "[J", Cond.fieldLink RX5 38 "TrafficMatrixModel" "guess" "[J", Cond.methodLink RX5 96 yX5_findRoutes, Cond.instanceMethod yX5_findRoutes, Cond.selects RX5 yX5_findRoutes yX5_findRoutes, Cond.code yX5_findRoutes cX5_findRoutes 6 none, Cond.fieldLink RX5 42 "TrafficMatrixModel" "distance" "[I", Cond.constant RX5 82 (1000000), Cond.fieldLink RX5 68 "TrafficMatrixModel" "links" "I", Cond.fieldLink RX5 13 "TrafficMatrixModel" "targetOf" "[I", Cond.fieldLink RX5 7 "TrafficMatrixModel" "sourceOf" "[I", Cond.fieldLink RX5 45 "TrafficMatrixModel" "bitsOf" "[I", Cond.methodLink RX5 83 yX5_costOf]
def wsX5_fitTotals_r2 : List Cond := [Cond.instanceMethod yX5_costOf, Cond.selects RX5 yX5_costOf yX5_costOf, Cond.code yX5_costOf cX5_costOf 2 (some .int), Cond.fieldLink RX5 16 "TrafficMatrixModel" "metricOf" "[I", Cond.methodLink RX5 87 yX5_isPair, Cond.instanceMethod yX5_isPair, Cond.selects RX5 yX5_isPair yX5_isPair, Cond.code yX5_isPair cX5_isPair 2 (some .boolean), Cond.methodLink RX5 90 yX5_routeBits, Cond.instanceMethod yX5_routeBits, Cond.selects RX5 yX5_routeBits yX5_routeBits, Cond.code yX5_routeBits cX5_routeBits 5 (some .int), Cond.methodLink RX5 93 yX5_nextLink, Cond.instanceMethod yX5_nextLink, Cond.selects RX5 yX5_nextLink yX5_nextLink, Cond.code yX5_nextLink cX5_nextLink 4 (some .int), Cond.methodLink RX5 99 yX5_hasRoute, Cond.instanceMethod yX5_hasRoute, Cond.selects RX5 yX5_hasRoute yX5_hasRoute, Cond.code yX5_hasRoute cX5_hasRoute 2 (some .boolean), Cond.methodLink RX5 171 yX5_fits, Cond.instanceMethod yX5_fits, Cond.selects RX5 yX5_fits yX5_fits, Cond.code yX5_fits cX5_fits 7 none]
def wsX5_fitTotals_r3 : List Cond := [Cond.constantLong RX5 159 (1000), Cond.methodLink RX5 164 yX5_sumOf, Cond.instanceMethod yX5_sumOf, Cond.selects RX5 yX5_sumOf yX5_sumOf, Cond.code yX5_sumOf cX5_sumOf 6 (some .long), Cond.methodLink RX5 161 yX5_isOf, Cond.instanceMethod yX5_isOf, Cond.selects RX5 yX5_isOf yX5_isOf, Cond.code yX5_isOf cX5_isOf 4 (some .boolean), Cond.methodLink RX5 105 yX5_uses, Cond.instanceMethod yX5_uses, Cond.selects RX5 yX5_uses yX5_uses, Cond.code yX5_uses cX5_uses 3 (some .boolean), Cond.methodLink RX5 174 yX5_changed, Cond.instanceMethod yX5_changed, Cond.selects RX5 yX5_changed yX5_changed, Cond.code yX5_changed cX5_changed 3 (some .int)]
def wsX5_fitTotals : List Cond := .code yX5_fitTotals cX5_fitTotals 4 (some .int) :: ((wsX5_fitTotals_r1 ++ (wsX5_fitTotals_r2 ++ wsX5_fitTotals_r3)) ++ wsX50)
def wsX5_fitLinks_r1 : List Cond := [Cond.fieldLink RX5 68 "TrafficMatrixModel" "links" "I", Cond.fieldLink RX5 22 "TrafficMatrixModel" "load" "[I", Cond.methodLink RX5 64 yX5_within, Cond.static yX5_within, Cond.initialized RX5, Cond.code yX5_within cX5_within 3 (some .boolean), Cond.methodLink RX5 168 yX5_keeps, Cond.instanceMethod yX5_keeps, Cond.selects RX5 yX5_keeps yX5_keeps, Cond.code yX5_keeps cX5_keeps 2 none, Cond.fieldLink RX5 57 "TrafficMatrixModel" "before" "[J", Cond.fieldLink RX5 38 "TrafficMatrixModel" "guess" "[J", Cond.methodLink RX5 96 yX5_findRoutes, Cond.instanceMethod yX5_findRoutes, Cond.selects RX5 yX5_findRoutes yX5_findRoutes, Cond.code yX5_findRoutes cX5_findRoutes 6 none, Cond.fieldLink RX5 42 "TrafficMatrixModel" "distance" "[I", Cond.constant RX5 82 (1000000), Cond.fieldLink RX5 60 "TrafficMatrixModel" "nodes" "I", Cond.fieldLink RX5 13 "TrafficMatrixModel" "targetOf" "[I", Cond.fieldLink RX5 7 "TrafficMatrixModel" "sourceOf" "[I", Cond.fieldLink RX5 45 "TrafficMatrixModel" "bitsOf" "[I", Cond.methodLink RX5 83 yX5_costOf, Cond.instanceMethod yX5_costOf]
def wsX5_fitLinks_r2 : List Cond := [Cond.selects RX5 yX5_costOf yX5_costOf, Cond.code yX5_costOf cX5_costOf 2 (some .int), Cond.fieldLink RX5 16 "TrafficMatrixModel" "metricOf" "[I", Cond.methodLink RX5 87 yX5_isPair, Cond.instanceMethod yX5_isPair, Cond.selects RX5 yX5_isPair yX5_isPair, Cond.code yX5_isPair cX5_isPair 2 (some .boolean), Cond.methodLink RX5 90 yX5_routeBits, Cond.instanceMethod yX5_routeBits, Cond.selects RX5 yX5_routeBits yX5_routeBits, Cond.code yX5_routeBits cX5_routeBits 5 (some .int), Cond.methodLink RX5 93 yX5_nextLink, Cond.instanceMethod yX5_nextLink, Cond.selects RX5 yX5_nextLink yX5_nextLink, Cond.code yX5_nextLink cX5_nextLink 4 (some .int), Cond.methodLink RX5 99 yX5_hasRoute, Cond.instanceMethod yX5_hasRoute, Cond.selects RX5 yX5_hasRoute yX5_hasRoute, Cond.code yX5_hasRoute cX5_hasRoute 2 (some .boolean), Cond.methodLink RX5 171 yX5_fits, Cond.instanceMethod yX5_fits, Cond.selects RX5 yX5_fits yX5_fits, Cond.code yX5_fits cX5_fits 7 none, Cond.constantLong RX5 159 (1000)]
def wsX5_fitLinks_r3 : List Cond := [Cond.methodLink RX5 164 yX5_sumOf, Cond.instanceMethod yX5_sumOf, Cond.selects RX5 yX5_sumOf yX5_sumOf, Cond.code yX5_sumOf cX5_sumOf 6 (some .long), Cond.methodLink RX5 161 yX5_isOf, Cond.instanceMethod yX5_isOf, Cond.selects RX5 yX5_isOf yX5_isOf, Cond.code yX5_isOf cX5_isOf 4 (some .boolean), Cond.methodLink RX5 105 yX5_uses, Cond.instanceMethod yX5_uses, Cond.selects RX5 yX5_uses yX5_uses, Cond.code yX5_uses cX5_uses 3 (some .boolean), Cond.methodLink RX5 174 yX5_changed, Cond.instanceMethod yX5_changed, Cond.selects RX5 yX5_changed yX5_changed, Cond.code yX5_changed cX5_changed 3 (some .int)]
def wsX5_fitLinks : List Cond := .code yX5_fitLinks cX5_fitLinks 4 (some .int) :: ((wsX5_fitLinks_r1 ++ (wsX5_fitLinks_r2 ++ wsX5_fitLinks_r3)) ++ wsX50)
def wsX5_estimate : List Cond := .code yX5_estimate cX5_estimate 3 (some .long) :: ([.constantLong RX5 151 (-9223372036854775808), .fieldLink RX5 38 "TrafficMatrixModel" "guess" "[J", .methodLink RX5 75 yX5_refused, .instanceMethod yX5_refused, .selects RX5 yX5_refused yX5_refused, .initialized RX5, .code yX5_refused cX5_refused 3 (some .int), .methodLink RX5 71 yX5_isNode, .instanceMethod yX5_isNode, .selects RX5 yX5_isNode yX5_isNode, .code yX5_isNode cX5_isNode 2 (some .boolean), .fieldLink RX5 60 "TrafficMatrixModel" "nodes" "I", .methodLink RX5 64 yX5_within, .static yX5_within, .code yX5_within cX5_within 3 (some .boolean)] ++ wsX50)
def wsX5_residual_r1 : List Cond := [Cond.constantLong RX5 151 (-9223372036854775808), Cond.constantLong RX5 159 (1000), Cond.fieldLink RX5 22 "TrafficMatrixModel" "load" "[I", Cond.methodLink RX5 79 yX5_isLink, Cond.instanceMethod yX5_isLink, Cond.selects RX5 yX5_isLink yX5_isLink, Cond.initialized RX5, Cond.code yX5_isLink cX5_isLink 2 (some .boolean), Cond.fieldLink RX5 68 "TrafficMatrixModel" "links" "I", Cond.methodLink RX5 64 yX5_within, Cond.static yX5_within, Cond.code yX5_within cX5_within 3 (some .boolean), Cond.methodLink RX5 96 yX5_findRoutes, Cond.instanceMethod yX5_findRoutes, Cond.selects RX5 yX5_findRoutes yX5_findRoutes, Cond.code yX5_findRoutes cX5_findRoutes 6 none, Cond.fieldLink RX5 42 "TrafficMatrixModel" "distance" "[I", Cond.constant RX5 82 (1000000), Cond.fieldLink RX5 60 "TrafficMatrixModel" "nodes" "I", Cond.fieldLink RX5 13 "TrafficMatrixModel" "targetOf" "[I", Cond.fieldLink RX5 7 "TrafficMatrixModel" "sourceOf" "[I", Cond.fieldLink RX5 45 "TrafficMatrixModel" "bitsOf" "[I", Cond.methodLink RX5 83 yX5_costOf, Cond.instanceMethod yX5_costOf]
def wsX5_residual_r2 : List Cond := [Cond.selects RX5 yX5_costOf yX5_costOf, Cond.code yX5_costOf cX5_costOf 2 (some .int), Cond.fieldLink RX5 16 "TrafficMatrixModel" "metricOf" "[I", Cond.methodLink RX5 87 yX5_isPair, Cond.instanceMethod yX5_isPair, Cond.selects RX5 yX5_isPair yX5_isPair, Cond.code yX5_isPair cX5_isPair 2 (some .boolean), Cond.methodLink RX5 90 yX5_routeBits, Cond.instanceMethod yX5_routeBits, Cond.selects RX5 yX5_routeBits yX5_routeBits, Cond.code yX5_routeBits cX5_routeBits 5 (some .int), Cond.methodLink RX5 93 yX5_nextLink, Cond.instanceMethod yX5_nextLink, Cond.selects RX5 yX5_nextLink yX5_nextLink, Cond.code yX5_nextLink cX5_nextLink 4 (some .int), Cond.methodLink RX5 164 yX5_sumOf, Cond.instanceMethod yX5_sumOf, Cond.selects RX5 yX5_sumOf yX5_sumOf, Cond.code yX5_sumOf cX5_sumOf 6 (some .long), Cond.fieldLink RX5 38 "TrafficMatrixModel" "guess" "[J", Cond.methodLink RX5 161 yX5_isOf, Cond.instanceMethod yX5_isOf, Cond.selects RX5 yX5_isOf yX5_isOf, Cond.code yX5_isOf cX5_isOf 4 (some .boolean)]
def wsX5_residual_r3 : List Cond := [Cond.methodLink RX5 105 yX5_uses, Cond.instanceMethod yX5_uses, Cond.selects RX5 yX5_uses yX5_uses, Cond.code yX5_uses cX5_uses 3 (some .boolean)]
def wsX5_residual : List Cond := .code yX5_residual cX5_residual 2 (some .long) :: ((wsX5_residual_r1 ++ (wsX5_residual_r2 ++ wsX5_residual_r3)) ++ wsX50)
def wsX5_totalError_r1 : List Cond := [Cond.fieldLink RX5 38 "TrafficMatrixModel" "guess" "[J", Cond.constantLong RX5 159 (1000), Cond.fieldLink RX5 19 "TrafficMatrixModel" "demand" "[I", Cond.methodLink RX5 96 yX5_findRoutes, Cond.instanceMethod yX5_findRoutes, Cond.selects RX5 yX5_findRoutes yX5_findRoutes, Cond.initialized RX5, Cond.code yX5_findRoutes cX5_findRoutes 6 none, Cond.fieldLink RX5 42 "TrafficMatrixModel" "distance" "[I", Cond.constant RX5 82 (1000000), Cond.fieldLink RX5 68 "TrafficMatrixModel" "links" "I", Cond.fieldLink RX5 60 "TrafficMatrixModel" "nodes" "I", Cond.fieldLink RX5 13 "TrafficMatrixModel" "targetOf" "[I", Cond.fieldLink RX5 7 "TrafficMatrixModel" "sourceOf" "[I", Cond.fieldLink RX5 45 "TrafficMatrixModel" "bitsOf" "[I", Cond.methodLink RX5 83 yX5_costOf, Cond.instanceMethod yX5_costOf, Cond.selects RX5 yX5_costOf yX5_costOf, Cond.code yX5_costOf cX5_costOf 2 (some .int), Cond.fieldLink RX5 16 "TrafficMatrixModel" "metricOf" "[I", Cond.methodLink RX5 87 yX5_isPair, Cond.instanceMethod yX5_isPair, Cond.selects RX5 yX5_isPair yX5_isPair, Cond.code yX5_isPair cX5_isPair 2 (some .boolean)]
def wsX5_totalError_r2 : List Cond := [Cond.methodLink RX5 90 yX5_routeBits, Cond.instanceMethod yX5_routeBits, Cond.selects RX5 yX5_routeBits yX5_routeBits, Cond.code yX5_routeBits cX5_routeBits 5 (some .int), Cond.methodLink RX5 93 yX5_nextLink, Cond.instanceMethod yX5_nextLink, Cond.selects RX5 yX5_nextLink yX5_nextLink, Cond.code yX5_nextLink cX5_nextLink 4 (some .int), Cond.methodLink RX5 99 yX5_hasRoute, Cond.instanceMethod yX5_hasRoute, Cond.selects RX5 yX5_hasRoute yX5_hasRoute, Cond.code yX5_hasRoute cX5_hasRoute 2 (some .boolean)]
def wsX5_totalError : List Cond := .code yX5_totalError cX5_totalError 6 (some .long) :: ((wsX5_totalError_r1 ++ wsX5_totalError_r2) ++ wsX50)
def wsJ9_abs_067f4 : List Cond := .code yJ9_abs_067f4 cJ9_abs_067f4 2 (some .long) :: ([])
def wsJ9_min_7cf53 : List Cond := .code yJ9_min_7cf53 cJ9_min_7cf53 2 (some .int) :: ([])
def wsL_law_r1 : List Cond := [Cond.classLink RL 7 RX4, Cond.instantiable RX4 5, Cond.initialized RX4, Cond.classLink RL 10 RX5, Cond.instantiable RX5 20, Cond.initialized RX5, Cond.methodLink RL 9 yX4_init, Cond.instanceMethod yX4_init, Cond.code yX4_init cX4_init 1 none, Cond.methodLink RX4 5 objectInit, Cond.instanceMethod objectInit, Cond.code objectInit ⟨#[0xb1]⟩ 1 none, Cond.classLink RX4 11 RX3, Cond.instantiable RX3 8, Cond.initialized RX3, Cond.fieldLink RX4 14 "TrafficMatrix" "network" "LTrafficMatrix$Network;", Cond.arrayClass .int, Cond.fieldLink RX4 18 "TrafficMatrix" "demands" "[I", Cond.classLink RX4 22 RX2, Cond.instantiable RX2 4, Cond.initialized RX2, Cond.fieldLink RX4 25 "TrafficMatrix" "measurements" "LTrafficMatrix$Measurements;", Cond.classLink RX4 29 RX0, Cond.instantiable RX0 8]
def wsL_law_r2 : List Cond := [Cond.initialized RX0, Cond.fieldLink RX4 32 "TrafficMatrix" "equations" "LTrafficMatrix$Equations;", Cond.classLink RX4 36 RX1, Cond.instantiable RX1 2, Cond.initialized RX1, Cond.fieldLink RX4 39 "TrafficMatrix" "estimates" "LTrafficMatrix$Estimates;", Cond.instanceMethod yX3_init, Cond.code yX3_init cX3_init 1 none, Cond.methodLink RX3 3 objectInit, Cond.fieldLink RX3 9 "TrafficMatrix$Network" "sources" "[I", Cond.fieldLink RX3 15 "TrafficMatrix$Network" "targets" "[I", Cond.fieldLink RX3 18 "TrafficMatrix$Network" "metrics" "[I", Cond.fieldLink RX3 21 "TrafficMatrix$Network" "routeLengths" "[I", Cond.classLink RX3 24 "[[I", Cond.fieldLink RX3 26 "TrafficMatrix$Network" "routeLinks" "[[I", Cond.fieldLink RX3 29 "TrafficMatrix$Network" "costs" "[I", Cond.instanceMethod yX2_init, Cond.code yX2_init cX2_init 1 none, Cond.methodLink RX2 3 objectInit, Cond.fieldLink RX2 9 "TrafficMatrix$Measurements" "loads" "[I", Cond.fieldLink RX2 15 "TrafficMatrix$Measurements" "outTotals" "[I", Cond.fieldLink RX2 18 "TrafficMatrix$Measurements" "inTotals" "[I", Cond.fieldLink RX2 21 "TrafficMatrix$Measurements" "pairValues" "[I", Cond.instanceMethod yX0_init]
def wsL_law_r3 : List Cond := [Cond.code yX0_init cX0_init 1 none, Cond.methodLink RX0 3 objectInit, Cond.classLink RX0 9 "[[J", Cond.arrayClass .long, Cond.fieldLink RX0 11 "TrafficMatrix$Equations" "rows" "[[J", Cond.fieldLink RX0 16 "TrafficMatrix$Equations" "rowOfPivot" "[I", Cond.fieldLink RX0 20 "TrafficMatrix$Equations" "pivotOfRow" "[I", Cond.arrayClass .boolean, Cond.fieldLink RX0 23 "TrafficMatrix$Equations" "known" "[Z", Cond.instanceMethod yX1_init, Cond.code yX1_init cX1_init 1 none, Cond.methodLink RX1 3 objectInit, Cond.fieldLink RX1 9 "TrafficMatrix$Estimates" "values" "[J", Cond.fieldLink RX1 15 "TrafficMatrix$Estimates" "remembered" "[J", Cond.methodLink RX4 43 yX3_startAnew, Cond.instanceMethod yX3_startAnew, Cond.selects RX3 yX3_startAnew yX3_startAnew, Cond.code yX3_startAnew cX3_startAnew 2 none, Cond.fieldLink RX3 32 "TrafficMatrix$Network" "nodeCount" "I", Cond.fieldLink RX3 36 "TrafficMatrix$Network" "linkCount" "I", Cond.methodLink RX3 39 yJ7_fill_53178, Cond.static yJ7_fill_53178, Cond.initialized RJ7, Cond.code yJ7_fill_53178 cJ7_fill_53178 4 none]
def wsL_law_r4 : List Cond := [Cond.methodLink RX4 47 yX2_startAnew, Cond.instanceMethod yX2_startAnew, Cond.selects RX2 yX2_startAnew yX2_startAnew, Cond.code yX2_startAnew cX2_startAnew 1 none, Cond.methodLink RX2 24 yJ7_fill_53178, Cond.methodLink RL 12 yX5_init, Cond.instanceMethod yX5_init, Cond.code yX5_init cX5_init 1 none, Cond.methodLink RX5 1 objectInit, Cond.fieldLink RX5 7 "TrafficMatrixModel" "sourceOf" "[I", Cond.fieldLink RX5 13 "TrafficMatrixModel" "targetOf" "[I", Cond.fieldLink RX5 16 "TrafficMatrixModel" "metricOf" "[I", Cond.fieldLink RX5 19 "TrafficMatrixModel" "demand" "[I", Cond.fieldLink RX5 22 "TrafficMatrixModel" "load" "[I", Cond.fieldLink RX5 25 "TrafficMatrixModel" "outOf" "[I", Cond.fieldLink RX5 28 "TrafficMatrixModel" "inOf" "[I", Cond.fieldLink RX5 31 "TrafficMatrixModel" "isMeasured" "[Z", Cond.fieldLink RX5 35 "TrafficMatrixModel" "measured" "[I", Cond.fieldLink RX5 38 "TrafficMatrixModel" "guess" "[J", Cond.fieldLink RX5 42 "TrafficMatrixModel" "distance" "[I", Cond.fieldLink RX5 45 "TrafficMatrixModel" "bitsOf" "[I", Cond.fieldLink RX5 48 "TrafficMatrixModel" "row" "[J", Cond.fieldLink RX5 51 "TrafficMatrixModel" "pivotRow" "[I", Cond.fieldLink RX5 54 "TrafficMatrixModel" "wasSure" "[Z"]
def wsL_law_r5 : List Cond := [Cond.fieldLink RX5 57 "TrafficMatrixModel" "before" "[J", Cond.fieldLink RX5 60 "TrafficMatrixModel" "nodes" "I", Cond.methodLink RL 13 yX4_reset, Cond.instanceMethod yX4_reset, Cond.selects RX4 yX4_reset yX4_reset, Cond.code yX4_reset cX4_reset 3 (some .int), Cond.fieldLink RX4 49 "TrafficMatrix$Network" "linkCount" "I", Cond.methodLink RX4 53 yJ7_fill_53178, Cond.methodLink RX4 59 yX1_startAnew, Cond.instanceMethod yX1_startAnew, Cond.selects RX1 yX1_startAnew yX1_startAnew, Cond.code yX1_startAnew cX1_startAnew 1 none, Cond.methodLink RX1 18 yJ7_fill_d0a16, Cond.static yJ7_fill_d0a16, Cond.code yJ7_fill_d0a16 cJ7_fill_d0a16 5 none, Cond.methodLink RL 17 yX5_reset, Cond.instanceMethod yX5_reset, Cond.selects RX5 yX5_reset yX5_reset, Cond.code yX5_reset cX5_reset 4 (some .int), Cond.fieldLink RX5 68 "TrafficMatrixModel" "links" "I", Cond.methodLink RX5 64 yX5_within, Cond.static yX5_within, Cond.code yX5_within cX5_within 3 (some .boolean), Cond.methodLink RL 18 yX4_addLink]
def wsL_law_r6 : List Cond := [Cond.instanceMethod yX4_addLink, Cond.selects RX4 yX4_addLink yX4_addLink, Cond.code yX4_addLink cX4_addLink 5 (some .int), Cond.methodLink RX4 60 yX4_pairError, Cond.instanceMethod yX4_pairError, Cond.selects RX4 yX4_pairError yX4_pairError, Cond.code yX4_pairError cX4_pairError 3 (some .int), Cond.methodLink RX4 107 yX3_hasNode, Cond.instanceMethod yX3_hasNode, Cond.selects RX3 yX3_hasNode yX3_hasNode, Cond.code yX3_hasNode cX3_hasNode 2 (some .boolean), Cond.methodLink RX4 64 yX4_isMetric, Cond.static yX4_isMetric, Cond.code yX4_isMetric cX4_isMetric 1 (some .boolean), Cond.methodLink RX4 68 yX3_append, Cond.instanceMethod yX3_append, Cond.selects RX3 yX3_append yX3_append, Cond.code yX3_append cX3_append 5 (some .int), Cond.methodLink RX3 49 yX3_findRoutes, Cond.instanceMethod yX3_findRoutes, Cond.selects RX3 yX3_findRoutes yX3_findRoutes, Cond.code yX3_findRoutes cX3_findRoutes 3 none, Cond.methodLink RX3 52 yX3_findCostsTo, Cond.instanceMethod yX3_findCostsTo]
def wsL_law_r7 : List Cond := [Cond.selects RX3 yX3_findCostsTo yX3_findCostsTo, Cond.code yX3_findCostsTo cX3_findCostsTo 5 none, Cond.constant RX3 60 (1000000), Cond.methodLink RX3 65 Lib.Math.min.name, Cond.static Lib.Math.min.name, Cond.initialized "java/lang/Math", Cond.code Lib.Math.min.name Lib.Math.min.code 2 (some .int), Cond.methodLink RX3 61 yX3_costOver, Cond.instanceMethod yX3_costOver, Cond.selects RX3 yX3_costOver yX3_costOver, Cond.code yX3_costOver cX3_costOver 2 (some .int), Cond.methodLink RX3 56 yX3_findRoute, Cond.instanceMethod yX3_findRoute, Cond.selects RX3 yX3_findRoute yX3_findRoute, Cond.code yX3_findRoute cX3_findRoute 7 none, Cond.static yX4_slotOf, Cond.code yX4_slotOf cX4_slotOf 2 (some .int), Cond.methodLink RX3 74 yX3_cheapestFrom, Cond.instanceMethod yX3_cheapestFrom, Cond.selects RX3 yX3_cheapestFrom yX3_cheapestFrom, Cond.code yX3_cheapestFrom cX3_cheapestFrom 3 (some .int), Cond.methodLink RL 22 yX5_addLink, Cond.instanceMethod yX5_addLink, Cond.selects RX5 yX5_addLink yX5_addLink]
def wsL_law_r8 : List Cond := [Cond.code yX5_addLink cX5_addLink 5 (some .int), Cond.methodLink RX5 75 yX5_refused, Cond.instanceMethod yX5_refused, Cond.selects RX5 yX5_refused yX5_refused, Cond.code yX5_refused cX5_refused 3 (some .int), Cond.methodLink RX5 71 yX5_isNode, Cond.instanceMethod yX5_isNode, Cond.selects RX5 yX5_isNode yX5_isNode, Cond.code yX5_isNode cX5_isNode 2 (some .boolean), Cond.methodLink RL 23 yX4_setMetric, Cond.instanceMethod yX4_setMetric, Cond.selects RX4 yX4_setMetric yX4_setMetric, Cond.code yX4_setMetric cX4_setMetric 3 (some .int), Cond.methodLink RX4 72 yX3_hasLink, Cond.instanceMethod yX3_hasLink, Cond.selects RX3 yX3_hasLink yX3_hasLink, Cond.code yX3_hasLink cX3_hasLink 2 (some .boolean), Cond.methodLink RX4 75 yX3_replaceMetric, Cond.instanceMethod yX3_replaceMetric, Cond.selects RX3 yX3_replaceMetric yX3_replaceMetric, Cond.code yX3_replaceMetric cX3_replaceMetric 4 (some .int), Cond.methodLink RL 27 yX5_setMetric, Cond.instanceMethod yX5_setMetric, Cond.selects RX5 yX5_setMetric yX5_setMetric]
def wsL_law_r9 : List Cond := [Cond.code yX5_setMetric cX5_setMetric 4 (some .int), Cond.methodLink RX5 79 yX5_isLink, Cond.instanceMethod yX5_isLink, Cond.selects RX5 yX5_isLink yX5_isLink, Cond.code yX5_isLink cX5_isLink 2 (some .boolean), Cond.methodLink RL 28 yX4_routeLength, Cond.instanceMethod yX4_routeLength, Cond.selects RX4 yX4_routeLength yX4_routeLength, Cond.code yX4_routeLength cX4_routeLength 4 (some .int), Cond.fieldLink RX4 81 "TrafficMatrix$Network" "routeLengths" "[I", Cond.methodLink RX4 78 yX4_routeError, Cond.instanceMethod yX4_routeError, Cond.selects RX4 yX4_routeError yX4_routeError, Cond.code yX4_routeError cX4_routeError 4 (some .int), Cond.methodLink RX4 84 yX4_slotOf, Cond.methodLink RX4 139 yX3_hasRoute, Cond.instanceMethod yX3_hasRoute, Cond.selects RX3 yX3_hasRoute yX3_hasRoute, Cond.code yX3_hasRoute cX3_hasRoute 2 (some .boolean), Cond.methodLink RL 31 yX5_routeLength, Cond.instanceMethod yX5_routeLength, Cond.selects RX5 yX5_routeLength yX5_routeLength, Cond.code yX5_routeLength cX5_routeLength 4 (some .int), Cond.methodLink RX5 102 yX5_refusedRoute]
def wsL_law_r10 : List Cond := [Cond.instanceMethod yX5_refusedRoute, Cond.selects RX5 yX5_refusedRoute yX5_refusedRoute, Cond.code yX5_refusedRoute cX5_refusedRoute 4 (some .int), Cond.methodLink RX5 96 yX5_findRoutes, Cond.instanceMethod yX5_findRoutes, Cond.selects RX5 yX5_findRoutes yX5_findRoutes, Cond.code yX5_findRoutes cX5_findRoutes 6 none, Cond.constant RX5 82 (1000000), Cond.methodLink RX5 83 yX5_costOf, Cond.instanceMethod yX5_costOf, Cond.selects RX5 yX5_costOf yX5_costOf, Cond.code yX5_costOf cX5_costOf 2 (some .int), Cond.methodLink RX5 87 yX5_isPair, Cond.instanceMethod yX5_isPair, Cond.selects RX5 yX5_isPair yX5_isPair, Cond.code yX5_isPair cX5_isPair 2 (some .boolean), Cond.methodLink RX5 90 yX5_routeBits, Cond.instanceMethod yX5_routeBits, Cond.selects RX5 yX5_routeBits yX5_routeBits, Cond.code yX5_routeBits cX5_routeBits 5 (some .int), Cond.methodLink RX5 93 yX5_nextLink, Cond.instanceMethod yX5_nextLink, Cond.selects RX5 yX5_nextLink yX5_nextLink, Cond.code yX5_nextLink cX5_nextLink 4 (some .int)]
def wsL_law_r11 : List Cond := [Cond.methodLink RX5 99 yX5_hasRoute, Cond.instanceMethod yX5_hasRoute, Cond.selects RX5 yX5_hasRoute yX5_hasRoute, Cond.code yX5_hasRoute cX5_hasRoute 2 (some .boolean), Cond.methodLink RL 32 yX4_routeLink, Cond.instanceMethod yX4_routeLink, Cond.selects RX4 yX4_routeLink yX4_routeLink, Cond.code yX4_routeLink cX4_routeLink 6 (some .int), Cond.fieldLink RX4 87 "TrafficMatrix$Network" "routeLinks" "[[I", Cond.methodLink RL 35 yX5_routeLink, Cond.instanceMethod yX5_routeLink, Cond.selects RX5 yX5_routeLink yX5_routeLink, Cond.code yX5_routeLink cX5_routeLink 7 (some .int), Cond.methodLink RL 36 yX4_setDemand, Cond.instanceMethod yX4_setDemand, Cond.selects RX4 yX4_setDemand yX4_setDemand, Cond.code yX4_setDemand cX4_setDemand 7 (some .int), Cond.methodLink RL 39 yX5_setDemand, Cond.instanceMethod yX5_setDemand, Cond.selects RX5 yX5_setDemand yX5_setDemand, Cond.code yX5_setDemand cX5_setDemand 6 (some .int), Cond.methodLink RL 40 yX4_carriedLoad, Cond.instanceMethod yX4_carriedLoad, Cond.selects RX4 yX4_carriedLoad yX4_carriedLoad]
def wsL_law_r12 : List Cond := [Cond.code yX4_carriedLoad cX4_carriedLoad 2 (some .int), Cond.methodLink RX4 91 yX3_loadOf, Cond.instanceMethod yX3_loadOf, Cond.selects RX3 yX3_loadOf yX3_loadOf, Cond.code yX3_loadOf cX3_loadOf 5 (some .int), Cond.methodLink RX3 45 yX3_routeUses, Cond.instanceMethod yX3_routeUses, Cond.selects RX3 yX3_routeUses yX3_routeUses, Cond.code yX3_routeUses cX3_routeUses 4 (some .boolean), Cond.methodLink RL 43 yX5_carriedLoad, Cond.instanceMethod yX5_carriedLoad, Cond.selects RX5 yX5_carriedLoad yX5_carriedLoad, Cond.code yX5_carriedLoad cX5_carriedLoad 2 (some .int), Cond.methodLink RX5 109 yX5_carried, Cond.instanceMethod yX5_carried, Cond.selects RX5 yX5_carried yX5_carried, Cond.code yX5_carried cX5_carried 4 (some .int), Cond.methodLink RX5 105 yX5_uses, Cond.instanceMethod yX5_uses, Cond.selects RX5 yX5_uses yX5_uses, Cond.code yX5_uses cX5_uses 3 (some .boolean), Cond.methodLink RL 44 yX4_measure, Cond.instanceMethod yX4_measure, Cond.selects RX4 yX4_measure yX4_measure]
def wsL_law_r13 : List Cond := [Cond.code yX4_measure cX4_measure 1 (some .int), Cond.methodLink RX4 95 yX2_take, Cond.instanceMethod yX2_take, Cond.selects RX2 yX2_take yX2_take, Cond.code yX2_take cX2_take 4 none, Cond.fieldLink RX2 30 "TrafficMatrix$Network" "linkCount" "I", Cond.methodLink RX2 36 yX3_loadOf, Cond.methodLink RX2 40 yX3_hasRoute, Cond.methodLink RX4 99 yX2_sumOfOutTotals, Cond.instanceMethod yX2_sumOfOutTotals, Cond.selects RX2 yX2_sumOfOutTotals yX2_sumOfOutTotals, Cond.code yX2_sumOfOutTotals cX2_sumOfOutTotals 3 (some .int), Cond.methodLink RL 48 yX5_measure, Cond.instanceMethod yX5_measure, Cond.selects RX5 yX5_measure yX5_measure, Cond.code yX5_measure cX5_measure 3 (some .int), Cond.methodLink RL 49 yX4_setMeasuredLoad, Cond.instanceMethod yX4_setMeasuredLoad, Cond.selects RX4 yX4_setMeasuredLoad yX4_setMeasuredLoad, Cond.code yX4_setMeasuredLoad cX4_setMeasuredLoad 4 (some .int), Cond.constant RX4 103 (199980), Cond.fieldLink RX4 104 "TrafficMatrix$Measurements" "loads" "[I", Cond.methodLink RL 52 yX5_setMeasuredLoad, Cond.instanceMethod yX5_setMeasuredLoad]
def wsL_law_r14 : List Cond := [Cond.selects RX5 yX5_setMeasuredLoad yX5_setMeasuredLoad, Cond.code yX5_setMeasuredLoad cX5_setMeasuredLoad 4 (some .int), Cond.constant RX5 112 (199980), Cond.methodLink RL 53 yX4_measuredLoad, Cond.instanceMethod yX4_measuredLoad, Cond.selects RX4 yX4_measuredLoad yX4_measuredLoad, Cond.code yX4_measuredLoad cX4_measuredLoad 2 (some .int), Cond.methodLink RL 56 yX5_measuredLoad, Cond.instanceMethod yX5_measuredLoad, Cond.selects RX5 yX5_measuredLoad yX5_measuredLoad, Cond.code yX5_measuredLoad cX5_measuredLoad 2 (some .int), Cond.methodLink RL 57 yX4_outTotal, Cond.instanceMethod yX4_outTotal, Cond.selects RX4 yX4_outTotal yX4_outTotal, Cond.code yX4_outTotal cX4_outTotal 2 (some .int), Cond.fieldLink RX4 110 "TrafficMatrix$Measurements" "outTotals" "[I", Cond.methodLink RL 60 yX5_outTotal, Cond.instanceMethod yX5_outTotal, Cond.selects RX5 yX5_outTotal yX5_outTotal, Cond.code yX5_outTotal cX5_outTotal 2 (some .int), Cond.methodLink RL 61 yX4_inTotal, Cond.instanceMethod yX4_inTotal, Cond.selects RX4 yX4_inTotal yX4_inTotal, Cond.code yX4_inTotal cX4_inTotal 2 (some .int)]
def wsL_law_r15 : List Cond := [Cond.fieldLink RX4 113 "TrafficMatrix$Measurements" "inTotals" "[I", Cond.methodLink RL 64 yX5_inTotal, Cond.instanceMethod yX5_inTotal, Cond.selects RX5 yX5_inTotal yX5_inTotal, Cond.code yX5_inTotal cX5_inTotal 2 (some .int), Cond.methodLink RL 65 yX4_measurePair, Cond.instanceMethod yX4_measurePair, Cond.selects RX4 yX4_measurePair yX4_measurePair, Cond.code yX4_measurePair cX4_measurePair 5 (some .int), Cond.fieldLink RX4 116 "TrafficMatrix$Measurements" "pairValues" "[I", Cond.methodLink RL 68 yX5_measurePair, Cond.instanceMethod yX5_measurePair, Cond.selects RX5 yX5_measurePair yX5_measurePair, Cond.code yX5_measurePair cX5_measurePair 5 (some .int), Cond.methodLink RL 69 yX4_forgetPair, Cond.instanceMethod yX4_forgetPair, Cond.selects RX4 yX4_forgetPair yX4_forgetPair, Cond.code yX4_forgetPair cX4_forgetPair 6 (some .int), Cond.methodLink RX4 119 yX2_hasPair, Cond.instanceMethod yX2_hasPair, Cond.selects RX2 yX2_hasPair yX2_hasPair, Cond.code yX2_hasPair cX2_hasPair 2 (some .boolean), Cond.methodLink RL 72 yX5_forgetPair, Cond.instanceMethod yX5_forgetPair]
def wsL_law_r16 : List Cond := [Cond.selects RX5 yX5_forgetPair yX5_forgetPair, Cond.code yX5_forgetPair cX5_forgetPair 5 (some .int), Cond.methodLink RL 73 yX4_rank, Cond.instanceMethod yX4_rank, Cond.selects RX4 yX4_rank yX4_rank, Cond.code yX4_rank cX4_rank 1 (some .int), Cond.fieldLink RX4 126 "TrafficMatrix$Equations" "knownCount" "I", Cond.fieldLink RX4 129 "TrafficMatrix$Equations" "pivotCount" "I", Cond.methodLink RX4 122 yX0_solve, Cond.instanceMethod yX0_solve, Cond.selects RX0 yX0_solve yX0_solve, Cond.code yX0_solve cX0_solve 4 none, Cond.fieldLink RX0 27 "TrafficMatrix$Network" "linkCount" "I", Cond.fieldLink RX0 33 "TrafficMatrix$Equations" "rowCount" "I", Cond.methodLink RX0 36 yX0_findKnown, Cond.instanceMethod yX0_findKnown, Cond.selects RX0 yX0_findKnown yX0_findKnown, Cond.code yX0_findKnown cX0_findKnown 4 none, Cond.fieldLink RX0 47 "TrafficMatrix$Equations" "knownCount" "I", Cond.methodLink RX0 50 yX3_hasRoute, Cond.methodLink RX0 54 yX2_hasPair, Cond.methodLink RX0 40 yX0_fillRow, Cond.instanceMethod yX0_fillRow, Cond.selects RX0 yX0_fillRow yX0_fillRow]
def wsL_law_r17 : List Cond := [Cond.code yX0_fillRow cX0_fillRow 6 none, Cond.fieldLink RX0 65 "TrafficMatrix$Measurements" "loads" "[I", Cond.fieldLink RX0 72 "TrafficMatrix$Measurements" "pairValues" "[I", Cond.methodLink RX0 59 yJ7_fill_d0a16, Cond.methodLink RX0 68 yX3_routeUses, Cond.methodLink RX0 44 yX0_eliminate, Cond.instanceMethod yX0_eliminate, Cond.selects RX0 yX0_eliminate yX0_eliminate, Cond.code yX0_eliminate cX0_eliminate 3 none, Cond.fieldLink RX0 75 "TrafficMatrix$Equations" "pivotCount" "I", Cond.fieldLink RX0 78 "TrafficMatrix$Equations" "pivot" "J", Cond.methodLink RX0 82 yJ7_fill_53178, Cond.methodLink RX0 85 yX0_findPivotRow, Cond.instanceMethod yX0_findPivotRow, Cond.selects RX0 yX0_findPivotRow yX0_findPivotRow, Cond.code yX0_findPivotRow cX0_findPivotRow 3 (some .int), Cond.methodLink RX0 89 yX0_clearColumn, Cond.instanceMethod yX0_clearColumn, Cond.selects RX0 yX0_clearColumn yX0_clearColumn, Cond.code yX0_clearColumn cX0_clearColumn 6 none, Cond.methodLink RX0 93 yX0_combine, Cond.instanceMethod yX0_combine, Cond.selects RX0 yX0_combine yX0_combine, Cond.code yX0_combine cX0_combine 9 none]
def wsL_law_r18 : List Cond := [Cond.methodLink RX0 97 yX0_quotient, Cond.static yX0_quotient, Cond.code yX0_quotient cX0_quotient 4 (some .long), Cond.methodLink RL 76 yX5_rank, Cond.instanceMethod yX5_rank, Cond.selects RX5 yX5_rank yX5_rank, Cond.code yX5_rank cX5_rank 1 (some .int), Cond.fieldLink RX5 113 "TrafficMatrixModel" "known" "I", Cond.fieldLink RX5 127 "TrafficMatrixModel" "rows" "I", Cond.methodLink RX5 138 yX5_reduces, Cond.instanceMethod yX5_reduces, Cond.selects RX5 yX5_reduces yX5_reduces, Cond.code yX5_reduces cX5_reduces 5 none, Cond.methodLink RX5 124 yX5_laysOut, Cond.instanceMethod yX5_laysOut, Cond.selects RX5 yX5_laysOut yX5_laysOut, Cond.code yX5_laysOut cX5_laysOut 8 none, Cond.methodLink RX5 130 yX5_exchanges, Cond.instanceMethod yX5_exchanges, Cond.selects RX5 yX5_exchanges yX5_exchanges, Cond.code yX5_exchanges cX5_exchanges 6 none, Cond.methodLink RX5 134 yX5_clears, Cond.instanceMethod yX5_clears, Cond.selects RX5 yX5_clears yX5_clears]
def wsL_law_r19 : List Cond := [Cond.code yX5_clears cX5_clears 9 none, Cond.methodLink RX5 120 yX5_shortens, Cond.instanceMethod yX5_shortens, Cond.selects RX5 yX5_shortens yX5_shortens, Cond.code yX5_shortens cX5_shortens 5 none, Cond.methodLink RX5 116 yX5_common, Cond.static yX5_common, Cond.code yX5_common cX5_common 10 (some .long), Cond.methodLink RL 77 yX4_isConsistent, Cond.instanceMethod yX4_isConsistent, Cond.selects RX4 yX4_isConsistent yX4_isConsistent, Cond.code yX4_isConsistent cX4_isConsistent 1 (some .int), Cond.methodLink RX4 132 yX0_haveSolution, Cond.instanceMethod yX0_haveSolution, Cond.selects RX0 yX0_haveSolution yX0_haveSolution, Cond.code yX0_haveSolution cX0_haveSolution 2 (some .boolean), Cond.methodLink RL 80 yX5_isConsistent, Cond.instanceMethod yX5_isConsistent, Cond.selects RX5 yX5_isConsistent yX5_isConsistent, Cond.code yX5_isConsistent cX5_isConsistent 1 (some .int), Cond.methodLink RX5 144 yX5_agrees, Cond.instanceMethod yX5_agrees, Cond.selects RX5 yX5_agrees yX5_agrees, Cond.code yX5_agrees cX5_agrees 2 (some .boolean)]
def wsL_law_r20 : List Cond := [Cond.methodLink RL 81 yX4_isIdentifiable, Cond.instanceMethod yX4_isIdentifiable, Cond.selects RX4 yX4_isIdentifiable yX4_isIdentifiable, Cond.code yX4_isIdentifiable cX4_isIdentifiable 4 (some .int), Cond.methodLink RX4 136 yX0_determine, Cond.instanceMethod yX0_determine, Cond.selects RX0 yX0_determine yX0_determine, Cond.code yX0_determine cX0_determine 2 (some .boolean), Cond.methodLink RX0 101 yX0_firstFreePart, Cond.instanceMethod yX0_firstFreePart, Cond.selects RX0 yX0_firstFreePart yX0_firstFreePart, Cond.code yX0_firstFreePart cX0_firstFreePart 3 (some .int), Cond.methodLink RX0 107 yX0_freePart, Cond.instanceMethod yX0_freePart, Cond.selects RX0 yX0_freePart yX0_freePart, Cond.code yX0_freePart cX0_freePart 4 (some .long), Cond.methodLink RL 84 yX5_isIdentifiable, Cond.instanceMethod yX5_isIdentifiable, Cond.selects RX5 yX5_isIdentifiable yX5_isIdentifiable, Cond.code yX5_isIdentifiable cX5_isIdentifiable 4 (some .int), Cond.methodLink RX5 141 yX5_isSure, Cond.instanceMethod yX5_isSure, Cond.selects RX5 yX5_isSure yX5_isSure, Cond.code yX5_isSure cX5_isSure 5 (some .boolean)]
def wsL_law_r21 : List Cond := [Cond.methodLink RL 85 yX4_identifiableCount, Cond.instanceMethod yX4_identifiableCount, Cond.selects RX4 yX4_identifiableCount yX4_identifiableCount, Cond.code yX4_identifiableCount cX4_identifiableCount 3 (some .int), Cond.methodLink RL 88 yX5_identifiableCount, Cond.instanceMethod yX5_identifiableCount, Cond.selects RX5 yX5_identifiableCount yX5_identifiableCount, Cond.code yX5_identifiableCount cX5_identifiableCount 1 (some .int), Cond.methodLink RX5 148 yX5_sureCount, Cond.instanceMethod yX5_sureCount, Cond.selects RX5 yX5_sureCount yX5_sureCount, Cond.code yX5_sureCount cX5_sureCount 4 (some .int), Cond.methodLink RL 89 yX4_identifiedNumerator, Cond.instanceMethod yX4_identifiedNumerator, Cond.selects RX4 yX4_identifiedNumerator yX4_identifiedNumerator, Cond.code yX4_identifiedNumerator cX4_identifiedNumerator 3 (some .long), Cond.constantLong RX4 146 (-9223372036854775808), Cond.methodLink RX4 142 yX4_findIdentified, Cond.instanceMethod yX4_findIdentified, Cond.selects RX4 yX4_findIdentified yX4_findIdentified, Cond.code yX4_findIdentified cX4_findIdentified 3 (some .boolean), Cond.methodLink RX4 148 yX0_numeratorOf, Cond.instanceMethod yX0_numeratorOf, Cond.selects RX0 yX0_numeratorOf yX0_numeratorOf]
def wsL_law_r22 : List Cond := [Cond.code yX0_numeratorOf cX0_numeratorOf 6 (some .long), Cond.methodLink RX0 111 yX0_divisorOfPivotAnd, Cond.instanceMethod yX0_divisorOfPivotAnd, Cond.selects RX0 yX0_divisorOfPivotAnd yX0_divisorOfPivotAnd, Cond.code yX0_divisorOfPivotAnd cX0_divisorOfPivotAnd 10 (some .long), Cond.methodLink RX0 115 Lib.MathLoose.abs_long.x, Cond.static Lib.MathLoose.abs_long.x, Cond.code Lib.MathLoose.abs_long.x Lib.MathLoose.abs_long.code 2 (some .long), Cond.methodLink RL 93 yX5_identifiedNumerator, Cond.instanceMethod yX5_identifiedNumerator, Cond.selects RX5 yX5_identifiedNumerator yX5_identifiedNumerator, Cond.code yX5_identifiedNumerator cX5_identifiedNumerator 3 (some .long), Cond.methodLink RX5 155 yX5_identified, Cond.instanceMethod yX5_identified, Cond.selects RX5 yX5_identified yX5_identified, Cond.code yX5_identified cX5_identified 13 (some .long), Cond.constantLong RX5 151 (-9223372036854775808), Cond.constantLong RX5 153 (-1), Cond.methodLink RL 94 yX4_identifiedDenominator, Cond.instanceMethod yX4_identifiedDenominator, Cond.selects RX4 yX4_identifiedDenominator yX4_identifiedDenominator, Cond.code yX4_identifiedDenominator cX4_identifiedDenominator 3 (some .long), Cond.methodLink RX4 152 yX0_denominatorOf, Cond.instanceMethod yX0_denominatorOf]
def wsL_law_r23 : List Cond := [Cond.selects RX0 yX0_denominatorOf yX0_denominatorOf, Cond.code yX0_denominatorOf cX0_denominatorOf 3 (some .long), Cond.methodLink RL 97 yX5_identifiedDenominator, Cond.instanceMethod yX5_identifiedDenominator, Cond.selects RX5 yX5_identifiedDenominator yX5_identifiedDenominator, Cond.code yX5_identifiedDenominator cX5_identifiedDenominator 3 (some .long), Cond.methodLink RL 98 yX4_bestPair, Cond.instanceMethod yX4_bestPair, Cond.selects RX4 yX4_bestPair yX4_bestPair, Cond.code yX4_bestPair cX4_bestPair 5 (some .int), Cond.methodLink RX4 156 yX4_countWith, Cond.instanceMethod yX4_countWith, Cond.selects RX4 yX4_countWith yX4_countWith, Cond.code yX4_countWith cX4_countWith 4 (some .int), Cond.methodLink RX4 199 yX0_determineWith, Cond.instanceMethod yX0_determineWith, Cond.selects RX0 yX0_determineWith yX0_determineWith, Cond.code yX0_determineWith cX0_determineWith 5 (some .boolean), Cond.methodLink RX0 104 yX0_determine, Cond.methodLink RL 101 yX5_bestPair, Cond.instanceMethod yX5_bestPair, Cond.selects RX5 yX5_bestPair yX5_bestPair, Cond.code yX5_bestPair cX5_bestPair 5 (some .int), Cond.methodLink RL 102 yX4_pairsOnLink]
def wsL_law_r24 : List Cond := [Cond.instanceMethod yX4_pairsOnLink, Cond.selects RX4 yX4_pairsOnLink yX4_pairsOnLink, Cond.code yX4_pairsOnLink cX4_pairsOnLink 4 (some .int), Cond.methodLink RX4 160 yX3_routeUses, Cond.methodLink RL 105 yX5_pairsOnLink, Cond.instanceMethod yX5_pairsOnLink, Cond.selects RX5 yX5_pairsOnLink yX5_pairsOnLink, Cond.code yX5_pairsOnLink cX5_pairsOnLink 4 (some .int), Cond.methodLink RL 106 yX4_applyGravity, Cond.instanceMethod yX4_applyGravity, Cond.selects RX4 yX4_applyGravity yX4_applyGravity, Cond.code yX4_applyGravity cX4_applyGravity 1 (some .int), Cond.methodLink RX4 163 yX1_takeGravity, Cond.instanceMethod yX1_takeGravity, Cond.selects RX1 yX1_takeGravity yX1_takeGravity, Cond.code yX1_takeGravity cX1_takeGravity 9 (some .int), Cond.fieldLink RX1 42 "TrafficMatrix$Measurements" "outTotals" "[I", Cond.fieldLink RX1 46 "TrafficMatrix$Measurements" "inTotals" "[I", Cond.methodLink RX1 30 yX2_sumOfOutTotals, Cond.methodLink RX1 36 yX3_hasRoute, Cond.methodLink RX1 49 yX1_scaled, Cond.static yX1_scaled, Cond.code yX1_scaled cX1_scaled 6 (some .long), Cond.constantLong RX1 80 (1000)]
def wsL_law_r25 : List Cond := [Cond.methodLink RL 109 yX5_applyGravity, Cond.instanceMethod yX5_applyGravity, Cond.selects RX5 yX5_applyGravity yX5_applyGravity, Cond.code yX5_applyGravity cX5_applyGravity 5 (some .int), Cond.constantLong RX5 159 (1000), Cond.methodLink RL 110 yX4_fitTotals, Cond.instanceMethod yX4_fitTotals, Cond.selects RX4 yX4_fitTotals yX4_fitTotals, Cond.code yX4_fitTotals cX4_fitTotals 3 (some .int), Cond.methodLink RX4 167 yX4_isTimes, Cond.static yX4_isTimes, Cond.code yX4_isTimes cX4_isTimes 1 (some .boolean), Cond.methodLink RX4 170 yX1_remember, Cond.instanceMethod yX1_remember, Cond.selects RX1 yX1_remember yX1_remember, Cond.code yX1_remember cX1_remember 1 none, Cond.methodLink RX1 24 arraycopyName, Cond.native arraycopyName, Cond.static arraycopyName, Cond.initialized "java/lang/System", Cond.methodLink RX4 173 yX1_fitOnceToTotals, Cond.instanceMethod yX1_fitOnceToTotals, Cond.selects RX1 yX1_fitOnceToTotals yX1_fitOnceToTotals, Cond.code yX1_fitOnceToTotals cX1_fitOnceToTotals 3 none]
def wsL_law_r26 : List Cond := [Cond.methodLink RX1 57 yX1_fitLine, Cond.instanceMethod yX1_fitLine, Cond.selects RX1 yX1_fitLine yX1_fitLine, Cond.code yX1_fitLine cX1_fitLine 8 none, Cond.methodLink RX4 177 yX1_countChanged, Cond.instanceMethod yX1_countChanged, Cond.selects RX1 yX1_countChanged yX1_countChanged, Cond.code yX1_countChanged cX1_countChanged 3 (some .int), Cond.methodLink RL 113 yX5_fitTotals, Cond.instanceMethod yX5_fitTotals, Cond.selects RX5 yX5_fitTotals yX5_fitTotals, Cond.code yX5_fitTotals cX5_fitTotals 4 (some .int), Cond.methodLink RX5 168 yX5_keeps, Cond.instanceMethod yX5_keeps, Cond.selects RX5 yX5_keeps yX5_keeps, Cond.code yX5_keeps cX5_keeps 2 none, Cond.methodLink RX5 171 yX5_fits, Cond.instanceMethod yX5_fits, Cond.selects RX5 yX5_fits yX5_fits, Cond.code yX5_fits cX5_fits 7 none, Cond.methodLink RX5 164 yX5_sumOf, Cond.instanceMethod yX5_sumOf, Cond.selects RX5 yX5_sumOf yX5_sumOf, Cond.code yX5_sumOf cX5_sumOf 6 (some .long)]
def wsL_law_r27 : List Cond := [Cond.methodLink RX5 161 yX5_isOf, Cond.instanceMethod yX5_isOf, Cond.selects RX5 yX5_isOf yX5_isOf, Cond.code yX5_isOf cX5_isOf 4 (some .boolean), Cond.methodLink RX5 174 yX5_changed, Cond.instanceMethod yX5_changed, Cond.selects RX5 yX5_changed yX5_changed, Cond.code yX5_changed cX5_changed 3 (some .int), Cond.methodLink RL 114 yX4_fitLinks, Cond.instanceMethod yX4_fitLinks, Cond.selects RX4 yX4_fitLinks yX4_fitLinks, Cond.code yX4_fitLinks cX4_fitLinks 3 (some .int), Cond.methodLink RX4 180 yX1_fitOnceToLinks, Cond.instanceMethod yX1_fitOnceToLinks, Cond.selects RX1 yX1_fitOnceToLinks yX1_fitOnceToLinks, Cond.code yX1_fitOnceToLinks cX1_fitOnceToLinks 4 none, Cond.fieldLink RX1 61 "TrafficMatrix$Network" "linkCount" "I", Cond.fieldLink RX1 65 "TrafficMatrix$Measurements" "loads" "[I", Cond.methodLink RX1 68 yX1_fitLink, Cond.instanceMethod yX1_fitLink, Cond.selects RX1 yX1_fitLink yX1_fitLink, Cond.code yX1_fitLink cX1_fitLink 7 none, Cond.methodLink RX1 72 yX1_sumOnLink, Cond.instanceMethod yX1_sumOnLink]
def wsL_law_r28 : List Cond := [Cond.selects RX1 yX1_sumOnLink yX1_sumOnLink, Cond.code yX1_sumOnLink cX1_sumOnLink 6 (some .long), Cond.methodLink RX1 76 yX3_routeUses, Cond.methodLink RL 117 yX5_fitLinks, Cond.instanceMethod yX5_fitLinks, Cond.selects RX5 yX5_fitLinks yX5_fitLinks, Cond.code yX5_fitLinks cX5_fitLinks 4 (some .int), Cond.methodLink RL 118 yX4_estimate, Cond.instanceMethod yX4_estimate, Cond.selects RX4 yX4_estimate yX4_estimate, Cond.code yX4_estimate cX4_estimate 3 (some .long), Cond.fieldLink RX4 183 "TrafficMatrix$Estimates" "values" "[J", Cond.methodLink RL 121 yX5_estimate, Cond.instanceMethod yX5_estimate, Cond.selects RX5 yX5_estimate yX5_estimate, Cond.code yX5_estimate cX5_estimate 3 (some .long), Cond.methodLink RL 122 yX4_residual, Cond.instanceMethod yX4_residual, Cond.selects RX4 yX4_residual yX4_residual, Cond.code yX4_residual cX4_residual 2 (some .long), Cond.constantLong RX4 191 (1000), Cond.methodLink RX4 187 yX1_sumOnLink, Cond.methodLink RL 126 yX5_residual, Cond.instanceMethod yX5_residual]
def wsL_law_r29 : List Cond := [Cond.selects RX5 yX5_residual yX5_residual, Cond.code yX5_residual cX5_residual 2 (some .long), Cond.methodLink RL 127 yX4_totalError, Cond.instanceMethod yX4_totalError, Cond.selects RX4 yX4_totalError yX4_totalError, Cond.code yX4_totalError cX4_totalError 4 (some .long), Cond.methodLink RX4 193 Lib.MathLoose.abs_long.x, Cond.methodLink RL 131 yX5_totalError, Cond.instanceMethod yX5_totalError, Cond.selects RX5 yX5_totalError yX5_totalError, Cond.code yX5_totalError cX5_totalError 6 (some .long)]
def wsL_law : List Cond := (wsL_law_r1 ++ (wsL_law_r2 ++ (wsL_law_r3 ++ (wsL_law_r4 ++ (wsL_law_r5 ++ (wsL_law_r6 ++ (wsL_law_r7 ++ (wsL_law_r8 ++ (wsL_law_r9 ++ (wsL_law_r10 ++ (wsL_law_r11 ++ (wsL_law_r12 ++ (wsL_law_r13 ++ (wsL_law_r14 ++ (wsL_law_r15 ++ (wsL_law_r16 ++ (wsL_law_r17 ++ (wsL_law_r18 ++ (wsL_law_r19 ++ (wsL_law_r20 ++ (wsL_law_r21 ++ (wsL_law_r22 ++ (wsL_law_r23 ++ (wsL_law_r24 ++ (wsL_law_r25 ++ (wsL_law_r26 ++ (wsL_law_r27 ++ (wsL_law_r28 ++ wsL_law_r29)))))))))))))))))))))))))))) ++ wsX40 ++ wsX50 ++ wsX30 ++ wsX20 ++ wsX00 ++ wsX10 ++ ([] : List Cond)
abbrev vwCl : List vw_C := [(RX0, TX0, 8), (RX1, TX1, 2), (RX2, TX2, 4), (RX3, TX3, 8), (RX4, TX4, 5), (RX5, TX5, 20)]
end
section
set_option maxRecDepth 20000 in
theorem wsL_law_r1_in : ∀ w ∈ wsL_law_r1, w ∈ lw_tbl := fun w h => (goodIn_p wsL_law_r1 [60, 63] (by decide +kernel) (by decide +kernel) w h).1
set_option maxRecDepth 20000 in
theorem wsL_law_r2_in : ∀ w ∈ wsL_law_r2, w ∈ lw_tbl := fun w h => (goodIn_p wsL_law_r2 [68, 108] (by decide +kernel) (by decide +kernel) w h).1
set_option maxRecDepth 20000 in
theorem wsL_law_r3_in : ∀ w ∈ wsL_law_r3, w ∈ lw_tbl := fun w h => (goodIn_p wsL_law_r3 [136, 173, 186, 189] (by decide +kernel) (by decide +kernel) w h).1
set_option maxRecDepth 20000 in
theorem wsL_law_r4_in : ∀ w ∈ wsL_law_r4, w ∈ lw_tbl := fun w h => (goodIn_p wsL_law_r4 [193, 548] (by decide +kernel) (by decide +kernel) w h).1
set_option maxRecDepth 20000 in
theorem wsL_law_r5_in : ∀ w ∈ wsL_law_r5, w ∈ lw_tbl := fun w h => (goodIn_p wsL_law_r5 [214, 219, 222, 614, 617] (by decide +kernel) (by decide +kernel) w h).1
set_option maxRecDepth 20000 in
theorem wsL_law_r6_in : ∀ w ∈ wsL_law_r6, w ∈ lw_tbl := fun w h => (goodIn_p wsL_law_r6 [226, 230, 234, 237, 241, 245] (by decide +kernel) (by decide +kernel) w h).1
set_option maxRecDepth 20000 in
theorem wsL_law_r7_in : ∀ w ∈ wsL_law_r7, w ∈ lw_tbl := fun w h => (goodIn_p wsL_law_r7 [249, 257, 254, 261, 264, 268] (by decide +kernel) (by decide +kernel) w h).1
set_option maxRecDepth 20000 in
theorem wsL_law_r8_in : ∀ w ∈ wsL_law_r8, w ∈ lw_tbl := fun w h => (goodIn_p wsL_law_r8 [621, 625, 629, 272, 276, 280] (by decide +kernel) (by decide +kernel) w h).1
set_option maxRecDepth 20000 in
theorem wsL_law_r9_in : ∀ w ∈ wsL_law_r9, w ∈ lw_tbl := fun w h => (goodIn_p wsL_law_r9 [633, 637, 284, 288, 293, 641] (by decide +kernel) (by decide +kernel) w h).1
set_option maxRecDepth 20000 in
theorem wsL_law_r10_in : ∀ w ∈ wsL_law_r10, w ∈ lw_tbl := fun w h => (goodIn_p wsL_law_r10 [645, 649, 654, 658, 662, 666] (by decide +kernel) (by decide +kernel) w h).1
set_option maxRecDepth 20000 in
theorem wsL_law_r11_in : ∀ w ∈ wsL_law_r11, w ∈ lw_tbl := fun w h => (goodIn_p wsL_law_r11 [670, 297, 674, 301, 686] (by decide +kernel) (by decide +kernel) w h).1
set_option maxRecDepth 20000 in
theorem wsL_law_r12_in : ∀ w ∈ wsL_law_r12, w ∈ lw_tbl := fun w h => (goodIn_p wsL_law_r12 [305, 309, 313, 690, 694, 682] (by decide +kernel) (by decide +kernel) w h).1
set_option maxRecDepth 20000 in
theorem wsL_law_r13_in : ∀ w ∈ wsL_law_r13, w ∈ lw_tbl := fun w h => (goodIn_p wsL_law_r13 [317, 321, 327, 698, 331] (by decide +kernel) (by decide +kernel) w h).1
set_option maxRecDepth 20000 in
theorem wsL_law_r14_in : ∀ w ∈ wsL_law_r14, w ∈ lw_tbl := fun w h => (goodIn_p wsL_law_r14 [702, 336, 707, 340, 711, 344] (by decide +kernel) (by decide +kernel) w h).1
set_option maxRecDepth 20000 in
theorem wsL_law_r15_in : ∀ w ∈ wsL_law_r15, w ∈ lw_tbl := fun w h => (goodIn_p wsL_law_r15 [715, 348, 719, 352, 356] (by decide +kernel) (by decide +kernel) w h).1
set_option maxRecDepth 20000 in
theorem wsL_law_r16_in : ∀ w ∈ wsL_law_r16, w ∈ lw_tbl := fun w h => (goodIn_p wsL_law_r16 [723, 360, 364, 368] (by decide +kernel) (by decide +kernel) w h).1
set_option maxRecDepth 20000 in
theorem wsL_law_r17_in : ∀ w ∈ wsL_law_r17, w ∈ lw_tbl := fun w h => (goodIn_p wsL_law_r17 [374, 380, 385, 389, 393] (by decide +kernel) (by decide +kernel) w h).1
set_option maxRecDepth 20000 in
theorem wsL_law_r18_in : ∀ w ∈ wsL_law_r18, w ∈ lw_tbl := fun w h => (goodIn_p wsL_law_r18 [396, 727, 731, 735, 739] (by decide +kernel) (by decide +kernel) w h).1
set_option maxRecDepth 20000 in
theorem wsL_law_r19_in : ∀ w ∈ wsL_law_r19, w ∈ lw_tbl := fun w h => (goodIn_p wsL_law_r19 [743, 747, 750, 400, 404, 754, 758] (by decide +kernel) (by decide +kernel) w h).1
set_option maxRecDepth 20000 in
theorem wsL_law_r20_in : ∀ w ∈ wsL_law_r20, w ∈ lw_tbl := fun w h => (goodIn_p wsL_law_r20 [408, 412, 416, 420, 762, 766] (by decide +kernel) (by decide +kernel) w h).1
set_option maxRecDepth 20000 in
theorem wsL_law_r21_in : ∀ w ∈ wsL_law_r21, w ∈ lw_tbl := fun w h => (goodIn_p wsL_law_r21 [424, 770, 774, 428, 432] (by decide +kernel) (by decide +kernel) w h).1
set_option maxRecDepth 20000 in
theorem wsL_law_r22_in : ∀ w ∈ wsL_law_r22, w ∈ lw_tbl := fun w h => (goodIn_p wsL_law_r22 [437, 441, 444, 778, 782, 448] (by decide +kernel) (by decide +kernel) w h).1
set_option maxRecDepth 20000 in
theorem wsL_law_r23_in : ∀ w ∈ wsL_law_r23, w ∈ lw_tbl := fun w h => (goodIn_p wsL_law_r23 [452, 788, 456, 460, 464, 792] (by decide +kernel) (by decide +kernel) w h).1
set_option maxRecDepth 20000 in
theorem wsL_law_r24_in : ∀ w ∈ wsL_law_r24, w ∈ lw_tbl := fun w h => (goodIn_p wsL_law_r24 [469, 678, 474, 478, 483] (by decide +kernel) (by decide +kernel) w h).1
set_option maxRecDepth 20000 in
theorem wsL_law_r25_in : ∀ w ∈ wsL_law_r25, w ∈ lw_tbl := fun w h => (goodIn_p wsL_law_r25 [796, 488, 491, 495, 502] (by decide +kernel) (by decide +kernel) w h).1
set_option maxRecDepth 20000 in
theorem wsL_law_r26_in : ∀ w ∈ wsL_law_r26, w ∈ lw_tbl := fun w h => (goodIn_p wsL_law_r26 [507, 511, 801, 805, 809, 813] (by decide +kernel) (by decide +kernel) w h).1
set_option maxRecDepth 20000 in
theorem wsL_law_r27_in : ∀ w ∈ wsL_law_r27, w ∈ lw_tbl := fun w h => (goodIn_p wsL_law_r27 [817, 821, 515, 519, 523] (by decide +kernel) (by decide +kernel) w h).1
set_option maxRecDepth 20000 in
theorem wsL_law_r28_in : ∀ w ∈ wsL_law_r28, w ∈ lw_tbl := fun w h => (goodIn_p wsL_law_r28 [527, 825, 532, 829, 536] (by decide +kernel) (by decide +kernel) w h).1
set_option maxRecDepth 20000 in
theorem wsL_law_r29_in : ∀ w ∈ wsL_law_r29, w ∈ lw_tbl := fun w h => (goodIn_p wsL_law_r29 [833, 542, 837] (by decide +kernel) (by decide +kernel) w h).1
set_option maxRecDepth 20000 in
theorem wsX40_inL : ∀ w ∈ wsX40, w ∈ lw_tbl := fun w h => (goodIn_p wsX40 [] (by decide +kernel) (by decide +kernel) w h).1
set_option maxRecDepth 20000 in
theorem wsX50_inL : ∀ w ∈ wsX50, w ∈ lw_tbl := fun w h => (goodIn_p wsX50 [] (by decide +kernel) (by decide +kernel) w h).1
set_option maxRecDepth 20000 in
theorem wsX30_inL : ∀ w ∈ wsX30, w ∈ lw_tbl := fun w h => (goodIn_p wsX30 [] (by decide +kernel) (by decide +kernel) w h).1
set_option maxRecDepth 20000 in
theorem wsX20_inL : ∀ w ∈ wsX20, w ∈ lw_tbl := fun w h => (goodIn_p wsX20 [] (by decide +kernel) (by decide +kernel) w h).1
set_option maxRecDepth 20000 in
theorem wsX00_inL : ∀ w ∈ wsX00, w ∈ lw_tbl := fun w h => (goodIn_p wsX00 [] (by decide +kernel) (by decide +kernel) w h).1
set_option maxRecDepth 20000 in
theorem wsX10_inL : ∀ w ∈ wsX10, w ∈ lw_tbl := fun w h => (goodIn_p wsX10 [] (by decide +kernel) (by decide +kernel) w h).1
theorem wsL_law_in : ∀ w ∈ wsL_law, w ∈ lw_tbl := List.forall_mem_append.mpr ⟨List.forall_mem_append.mpr ⟨List.forall_mem_append.mpr ⟨List.forall_mem_append.mpr ⟨List.forall_mem_append.mpr ⟨List.forall_mem_append.mpr ⟨List.forall_mem_append.mpr ⟨List.forall_mem_append.mpr ⟨wsL_law_r1_in, List.forall_mem_append.mpr ⟨wsL_law_r2_in, List.forall_mem_append.mpr ⟨wsL_law_r3_in, List.forall_mem_append.mpr ⟨wsL_law_r4_in, List.forall_mem_append.mpr ⟨wsL_law_r5_in, List.forall_mem_append.mpr ⟨wsL_law_r6_in, List.forall_mem_append.mpr ⟨wsL_law_r7_in, List.forall_mem_append.mpr ⟨wsL_law_r8_in, List.forall_mem_append.mpr ⟨wsL_law_r9_in, List.forall_mem_append.mpr ⟨wsL_law_r10_in, List.forall_mem_append.mpr ⟨wsL_law_r11_in, List.forall_mem_append.mpr ⟨wsL_law_r12_in, List.forall_mem_append.mpr ⟨wsL_law_r13_in, List.forall_mem_append.mpr ⟨wsL_law_r14_in, List.forall_mem_append.mpr ⟨wsL_law_r15_in, List.forall_mem_append.mpr ⟨wsL_law_r16_in, List.forall_mem_append.mpr ⟨wsL_law_r17_in, List.forall_mem_append.mpr ⟨wsL_law_r18_in, List.forall_mem_append.mpr ⟨wsL_law_r19_in, List.forall_mem_append.mpr ⟨wsL_law_r20_in, List.forall_mem_append.mpr ⟨wsL_law_r21_in, List.forall_mem_append.mpr ⟨wsL_law_r22_in, List.forall_mem_append.mpr ⟨wsL_law_r23_in, List.forall_mem_append.mpr ⟨wsL_law_r24_in, List.forall_mem_append.mpr ⟨wsL_law_r25_in, List.forall_mem_append.mpr ⟨wsL_law_r26_in, List.forall_mem_append.mpr ⟨wsL_law_r27_in, List.forall_mem_append.mpr ⟨wsL_law_r28_in, wsL_law_r29_in⟩⟩⟩⟩⟩⟩⟩⟩⟩⟩⟩⟩⟩⟩⟩⟩⟩⟩⟩⟩⟩⟩⟩⟩⟩⟩⟩⟩, wsX40_inL⟩, wsX50_inL⟩, wsX30_inL⟩, wsX20_inL⟩, wsX00_inL⟩, wsX10_inL⟩, fun _ h => absurd h List.not_mem_nil⟩
theorem inlX0 : ∀ w ∈ wsX00, w ∈ wsL_law := fun _ h => List.mem_append_left _ (List.mem_append_left _ (List.mem_append_right _ h))
theorem inX0 : ∀ w ∈ wsX00, w ∈ lw_tbl := fun w h => wsL_law_in w (inlX0 w h)
theorem inlX1 : ∀ w ∈ wsX10, w ∈ wsL_law := fun _ h => List.mem_append_left _ (List.mem_append_right _ h)
theorem inX1 : ∀ w ∈ wsX10, w ∈ lw_tbl := fun w h => wsL_law_in w (inlX1 w h)
theorem inlX2 : ∀ w ∈ wsX20, w ∈ wsL_law := fun _ h => List.mem_append_left _ (List.mem_append_left _ (List.mem_append_left _ (List.mem_append_right _ h)))
theorem inX2 : ∀ w ∈ wsX20, w ∈ lw_tbl := fun w h => wsL_law_in w (inlX2 w h)
theorem inlX3 : ∀ w ∈ wsX30, w ∈ wsL_law := fun _ h => List.mem_append_left _ (List.mem_append_left _ (List.mem_append_left _ (List.mem_append_left _ (List.mem_append_right _ h))))
theorem inX3 : ∀ w ∈ wsX30, w ∈ lw_tbl := fun w h => wsL_law_in w (inlX3 w h)
theorem inlX4 : ∀ w ∈ wsX40, w ∈ wsL_law := fun _ h => List.mem_append_left _ (List.mem_append_left _ (List.mem_append_left _ (List.mem_append_left _ (List.mem_append_left _ (List.mem_append_left _ (List.mem_append_right _ h))))))
theorem inX4 : ∀ w ∈ wsX40, w ∈ lw_tbl := fun w h => wsL_law_in w (inlX4 w h)
theorem inlX5 : ∀ w ∈ wsX50, w ∈ wsL_law := fun _ h => List.mem_append_left _ (List.mem_append_left _ (List.mem_append_left _ (List.mem_append_left _ (List.mem_append_left _ (List.mem_append_right _ h)))))
theorem inX5 : ∀ w ∈ wsX50, w ∈ lw_tbl := fun w h => wsL_law_in w (inlX5 w h)
theorem inJ9 : ∀ w ∈ wsJ90, w ∈ lw_tbl := by decide +kernel
theorem inJ10 : ∀ w ∈ wsJ100, w ∈ lw_tbl := by decide +kernel
theorem inJ7 : ∀ w ∈ wsJ70, w ∈ lw_tbl := by decide +kernel
end
section
theorem dX0_init_0 : decode cX0_init 0 = .ok (.aload_n 0, 1) := by decide +kernel
theorem dX0_init_1 : decode cX0_init 1 = .ok (.invokespecial 3, 3) := by decide +kernel
theorem dX0_init_4 : decode cX0_init 4 = .ok (.aload_n 0, 1) := by decide +kernel
theorem dX0_init_5 : decode cX0_init 5 = .ok (.bipush 12, 2) := by decide +kernel
theorem dX0_init_7 : decode cX0_init 7 = .ok (.bipush 26, 2) := by decide +kernel
theorem dX0_init_9 : decode cX0_init 9 = .ok (.multianewarray 9 2, 4) := by decide +kernel
theorem dX0_init_13 : decode cX0_init 13 = .ok (.putfield 11, 3) := by decide +kernel
theorem dX0_init_16 : decode cX0_init 16 = .ok (.aload_n 0, 1) := by decide +kernel
theorem dX0_init_17 : decode cX0_init 17 = .ok (.bipush 25, 2) := by decide +kernel
theorem dX0_init_19 : decode cX0_init 19 = .ok (.newarray .int, 2) := by decide +kernel
theorem dX0_init_21 : decode cX0_init 21 = .ok (.putfield 16, 3) := by decide +kernel
theorem dX0_init_24 : decode cX0_init 24 = .ok (.aload_n 0, 1) := by decide +kernel
theorem dX0_init_25 : decode cX0_init 25 = .ok (.bipush 12, 2) := by decide +kernel
theorem dX0_init_27 : decode cX0_init 27 = .ok (.newarray .int, 2) := by decide +kernel
theorem dX0_init_29 : decode cX0_init 29 = .ok (.putfield 20, 3) := by decide +kernel
theorem dX0_init_32 : decode cX0_init 32 = .ok (.aload_n 0, 1) := by decide +kernel
theorem dX0_init_33 : decode cX0_init 33 = .ok (.bipush 25, 2) := by decide +kernel
theorem dX0_init_35 : decode cX0_init 35 = .ok (.newarray .boolean, 2) := by decide +kernel
theorem dX0_init_37 : decode cX0_init 37 = .ok (.putfield 23, 3) := by decide +kernel
theorem dX0_init_40 : decode cX0_init 40 = .ok (.return_, 1) := by decide +kernel
set_option maxRecDepth 20000 in
theorem ggX0_solve_X0_findKnown : GoodIn wsX0_solve wsX0_findKnown := goodIn_r _ [7, 8, 9, 10, 11, 12, 13, 14, 15, 16, 17, 18, 19, 20, 21, 72, 73, 74, 75, 76, 77, 78, 79, 64, 65, 66, 67, 68, 69, 70, 71, 80, 81, 82, 83] (by decide +kernel) (by decide +kernel)
set_option maxRecDepth 20000 in
theorem gX0_solve_X0_findKnown : GoodIn wsX0_solve (wsV RX0 36 RX0 yX0_findKnown wsX0_findKnown) := goodIn_app (goodIn_of _ (by decide +kernel)) ggX0_solve_X0_findKnown
set_option maxRecDepth 20000 in
theorem ggX0_solve_X0_fillRow : GoodIn wsX0_solve wsX0_fillRow := goodIn_r _ [25, 26, 27, 9, 28, 29, 30, 31, 32, 33, 34, 35, 13, 36, 15, 37, 72, 73, 74, 75, 76, 77, 78, 79, 80, 81, 82, 83, 64, 65, 66, 67, 68, 69, 70, 71] (by decide +kernel) (by decide +kernel)
set_option maxRecDepth 20000 in
theorem gX0_solve_X0_fillRow : GoodIn wsX0_solve (wsV RX0 40 RX0 yX0_fillRow wsX0_fillRow) := goodIn_app (goodIn_of _ (by decide +kernel)) ggX0_solve_X0_fillRow
set_option maxRecDepth 20000 in
theorem ggX0_solve_X0_eliminate : GoodIn wsX0_solve wsX0_eliminate := goodIn_r _ [41, 42, 43, 44, 45, 46, 47, 31, 48, 49, 50, 51, 6, 52, 2, 26, 53, 54, 55, 56, 57, 58, 59, 60, 61, 62, 63, 72, 73, 74, 75, 76, 77, 78, 79] (by decide +kernel) (by decide +kernel)
set_option maxRecDepth 20000 in
theorem gX0_solve_X0_eliminate : GoodIn wsX0_solve (wsV RX0 44 RX0 yX0_eliminate wsX0_eliminate) := goodIn_app (goodIn_of _ (by decide +kernel)) ggX0_solve_X0_eliminate
theorem dX0_solve_0 : decode cX0_solve 0 = .ok (.aload_n 0, 1) := by decide +kernel
theorem dX0_solve_1 : decode cX0_solve 1 = .ok (.aload_n 1, 1) := by decide +kernel
theorem dX0_solve_2 : decode cX0_solve 2 = .ok (.getfield 27, 3) := by decide +kernel
theorem dX0_solve_5 : decode cX0_solve 5 = .ok (.putfield 33, 3) := by decide +kernel
theorem dX0_solve_8 : decode cX0_solve 8 = .ok (.aload_n 0, 1) := by decide +kernel
theorem dX0_solve_9 : decode cX0_solve 9 = .ok (.aload_n 1, 1) := by decide +kernel
theorem dX0_solve_10 : decode cX0_solve 10 = .ok (.aload_n 2, 1) := by decide +kernel
theorem dX0_solve_11 : decode cX0_solve 11 = .ok (.invokevirtual 36, 3) := by decide +kernel
theorem dX0_solve_14 : decode cX0_solve 14 = .ok (.iconst 0, 1) := by decide +kernel
theorem dX0_solve_15 : decode cX0_solve 15 = .ok (.istore_n 3, 1) := by decide +kernel
theorem dX0_solve_16 : decode cX0_solve 16 = .ok (.iload_n 3, 1) := by decide +kernel
theorem dX0_solve_17 : decode cX0_solve 17 = .ok (.aload_n 0, 1) := by decide +kernel
theorem dX0_solve_18 : decode cX0_solve 18 = .ok (.getfield 33, 3) := by decide +kernel
theorem dX0_solve_21 : decode cX0_solve 21 = .ok (.if_icmp .ge 16, 3) := by decide +kernel
theorem dX0_solve_24 : decode cX0_solve 24 = .ok (.aload_n 0, 1) := by decide +kernel
theorem dX0_solve_25 : decode cX0_solve 25 = .ok (.iload_n 3, 1) := by decide +kernel
theorem dX0_solve_26 : decode cX0_solve 26 = .ok (.aload_n 1, 1) := by decide +kernel
theorem dX0_solve_27 : decode cX0_solve 27 = .ok (.aload_n 2, 1) := by decide +kernel
theorem dX0_solve_28 : decode cX0_solve 28 = .ok (.invokevirtual 40, 3) := by decide +kernel
theorem dX0_solve_31 : decode cX0_solve 31 = .ok (.iinc 3 1, 3) := by decide +kernel
theorem dX0_solve_34 : decode cX0_solve 34 = .ok (.goto (-18), 3) := by decide +kernel
theorem dX0_solve_37 : decode cX0_solve 37 = .ok (.aload_n 0, 1) := by decide +kernel
theorem dX0_solve_38 : decode cX0_solve 38 = .ok (.invokevirtual 44, 3) := by decide +kernel
theorem dX0_solve_41 : decode cX0_solve 41 = .ok (.return_, 1) := by decide +kernel
set_option maxRecDepth 20000 in
theorem ggX0_findKnown_X3_hasRoute : GoodIn wsX0_findKnown wsX3_hasRoute := goodIn_r _ [7, 8, 23, 24, 25, 26, 27, 28, 29, 30] (by decide +kernel) (by decide +kernel)
set_option maxRecDepth 20000 in
theorem gX0_findKnown_X3_hasRoute : GoodIn wsX0_findKnown (wsV RX0 50 RX3 yX3_hasRoute wsX3_hasRoute) := goodIn_app (goodIn_of _ (by decide +kernel)) ggX0_findKnown_X3_hasRoute
set_option maxRecDepth 20000 in
theorem ggX0_findKnown_X2_hasPair : GoodIn wsX0_findKnown wsX2_hasPair := goodIn_r _ [13, 14, 31, 32, 33, 34] (by decide +kernel) (by decide +kernel)
set_option maxRecDepth 20000 in
theorem gX0_findKnown_X2_hasPair : GoodIn wsX0_findKnown (wsV RX0 54 RX2 yX2_hasPair wsX2_hasPair) := goodIn_app (goodIn_of _ (by decide +kernel)) ggX0_findKnown_X2_hasPair
theorem dX0_findKnown_0 : decode cX0_findKnown 0 = .ok (.aload_n 0, 1) := by decide +kernel
theorem dX0_findKnown_1 : decode cX0_findKnown 1 = .ok (.iconst 0, 1) := by decide +kernel
theorem dX0_findKnown_2 : decode cX0_findKnown 2 = .ok (.putfield 47, 3) := by decide +kernel
theorem dX0_findKnown_5 : decode cX0_findKnown 5 = .ok (.iconst 0, 1) := by decide +kernel
theorem dX0_findKnown_6 : decode cX0_findKnown 6 = .ok (.istore_n 3, 1) := by decide +kernel
theorem dX0_findKnown_7 : decode cX0_findKnown 7 = .ok (.iload_n 3, 1) := by decide +kernel
theorem dX0_findKnown_8 : decode cX0_findKnown 8 = .ok (.bipush 25, 2) := by decide +kernel
theorem dX0_findKnown_10 : decode cX0_findKnown 10 = .ok (.if_icmp .ge 55, 3) := by decide +kernel
theorem dX0_findKnown_13 : decode cX0_findKnown 13 = .ok (.aload_n 0, 1) := by decide +kernel
theorem dX0_findKnown_14 : decode cX0_findKnown 14 = .ok (.getfield 23, 3) := by decide +kernel
theorem dX0_findKnown_17 : decode cX0_findKnown 17 = .ok (.iload_n 3, 1) := by decide +kernel
theorem dX0_findKnown_18 : decode cX0_findKnown 18 = .ok (.aload_n 1, 1) := by decide +kernel
theorem dX0_findKnown_19 : decode cX0_findKnown 19 = .ok (.iload_n 3, 1) := by decide +kernel
theorem dX0_findKnown_20 : decode cX0_findKnown 20 = .ok (.invokevirtual 50, 3) := by decide +kernel
theorem dX0_findKnown_23 : decode cX0_findKnown 23 = .ok (.ifCond .eq 15, 3) := by decide +kernel
theorem dX0_findKnown_26 : decode cX0_findKnown 26 = .ok (.aload_n 2, 1) := by decide +kernel
theorem dX0_findKnown_27 : decode cX0_findKnown 27 = .ok (.iload_n 3, 1) := by decide +kernel
theorem dX0_findKnown_28 : decode cX0_findKnown 28 = .ok (.invokevirtual 54, 3) := by decide +kernel
theorem dX0_findKnown_31 : decode cX0_findKnown 31 = .ok (.ifCond .eq 7, 3) := by decide +kernel
theorem dX0_findKnown_34 : decode cX0_findKnown 34 = .ok (.iconst 1, 1) := by decide +kernel
theorem dX0_findKnown_35 : decode cX0_findKnown 35 = .ok (.goto 4, 3) := by decide +kernel
theorem dX0_findKnown_38 : decode cX0_findKnown 38 = .ok (.iconst 0, 1) := by decide +kernel
theorem dX0_findKnown_39 : decode cX0_findKnown 39 = .ok (.bastore, 1) := by decide +kernel
theorem dX0_findKnown_40 : decode cX0_findKnown 40 = .ok (.aload_n 0, 1) := by decide +kernel
theorem dX0_findKnown_41 : decode cX0_findKnown 41 = .ok (.getfield 23, 3) := by decide +kernel
theorem dX0_findKnown_44 : decode cX0_findKnown 44 = .ok (.iload_n 3, 1) := by decide +kernel
theorem dX0_findKnown_45 : decode cX0_findKnown 45 = .ok (.baload, 1) := by decide +kernel
theorem dX0_findKnown_46 : decode cX0_findKnown 46 = .ok (.ifCond .eq 13, 3) := by decide +kernel
theorem dX0_findKnown_49 : decode cX0_findKnown 49 = .ok (.aload_n 0, 1) := by decide +kernel
theorem dX0_findKnown_50 : decode cX0_findKnown 50 = .ok (.dup, 1) := by decide +kernel
theorem dX0_findKnown_51 : decode cX0_findKnown 51 = .ok (.getfield 47, 3) := by decide +kernel
theorem dX0_findKnown_54 : decode cX0_findKnown 54 = .ok (.iconst 1, 1) := by decide +kernel
theorem dX0_findKnown_55 : decode cX0_findKnown 55 = .ok (.iadd, 1) := by decide +kernel
theorem dX0_findKnown_56 : decode cX0_findKnown 56 = .ok (.putfield 47, 3) := by decide +kernel
theorem dX0_findKnown_59 : decode cX0_findKnown 59 = .ok (.iinc 3 1, 3) := by decide +kernel
theorem dX0_findKnown_62 : decode cX0_findKnown 62 = .ok (.goto (-55), 3) := by decide +kernel
theorem dX0_findKnown_65 : decode cX0_findKnown 65 = .ok (.return_, 1) := by decide +kernel
set_option maxRecDepth 20000 in
theorem ggX0_fillRow_J7_fill_d0a16 : GoodIn wsX0_fillRow wsJ7_fill_d0a16 := goodIn_r _ [8] (by decide +kernel) (by decide +kernel)
set_option maxRecDepth 20000 in
theorem gX0_fillRow_J7_fill_d0a16 : GoodIn wsX0_fillRow (va_wsS RX0 59 yJ7_fill_d0a16 wsJ7_fill_d0a16) := goodIn_app (goodIn_of _ (by decide +kernel)) ggX0_fillRow_J7_fill_d0a16
set_option maxRecDepth 20000 in
theorem ggX0_fillRow_X3_routeUses : GoodIn wsX0_fillRow wsX3_routeUses := goodIn_r _ [13, 14, 15, 28, 29, 30, 31, 32, 33, 34, 35] (by decide +kernel) (by decide +kernel)
set_option maxRecDepth 20000 in
theorem gX0_fillRow_X3_routeUses : GoodIn wsX0_fillRow (wsV RX0 68 RX3 yX3_routeUses wsX3_routeUses) := goodIn_app (goodIn_of _ (by decide +kernel)) ggX0_fillRow_X3_routeUses
theorem dX0_fillRow_0 : decode cX0_fillRow 0 = .ok (.aload_n 0, 1) := by decide +kernel
theorem dX0_fillRow_1 : decode cX0_fillRow 1 = .ok (.getfield 11, 3) := by decide +kernel
theorem dX0_fillRow_4 : decode cX0_fillRow 4 = .ok (.iload_n 1, 1) := by decide +kernel
theorem dX0_fillRow_5 : decode cX0_fillRow 5 = .ok (.aaload, 1) := by decide +kernel
theorem dX0_fillRow_6 : decode cX0_fillRow 6 = .ok (.astore 4, 2) := by decide +kernel
theorem dX0_fillRow_8 : decode cX0_fillRow 8 = .ok (.aload 4, 2) := by decide +kernel
theorem dX0_fillRow_10 : decode cX0_fillRow 10 = .ok (.lconst 0, 1) := by decide +kernel
theorem dX0_fillRow_11 : decode cX0_fillRow 11 = .ok (.invokestatic 59, 3) := by decide +kernel
theorem dX0_fillRow_14 : decode cX0_fillRow 14 = .ok (.aload 4, 2) := by decide +kernel
theorem dX0_fillRow_16 : decode cX0_fillRow 16 = .ok (.bipush 25, 2) := by decide +kernel
theorem dX0_fillRow_18 : decode cX0_fillRow 18 = .ok (.aload_n 3, 1) := by decide +kernel
theorem dX0_fillRow_19 : decode cX0_fillRow 19 = .ok (.getfield 65, 3) := by decide +kernel
theorem dX0_fillRow_22 : decode cX0_fillRow 22 = .ok (.iload_n 1, 1) := by decide +kernel
theorem dX0_fillRow_23 : decode cX0_fillRow 23 = .ok (.iaload, 1) := by decide +kernel
theorem dX0_fillRow_24 : decode cX0_fillRow 24 = .ok (.i2l, 1) := by decide +kernel
theorem dX0_fillRow_25 : decode cX0_fillRow 25 = .ok (.lastore, 1) := by decide +kernel
theorem dX0_fillRow_26 : decode cX0_fillRow 26 = .ok (.iconst 0, 1) := by decide +kernel
theorem dX0_fillRow_27 : decode cX0_fillRow 27 = .ok (.istore 5, 2) := by decide +kernel
theorem dX0_fillRow_29 : decode cX0_fillRow 29 = .ok (.iload 5, 2) := by decide +kernel
theorem dX0_fillRow_31 : decode cX0_fillRow 31 = .ok (.bipush 25, 2) := by decide +kernel
theorem dX0_fillRow_33 : decode cX0_fillRow 33 = .ok (.if_icmp .ge 54, 3) := by decide +kernel
theorem dX0_fillRow_36 : decode cX0_fillRow 36 = .ok (.aload_n 2, 1) := by decide +kernel
theorem dX0_fillRow_37 : decode cX0_fillRow 37 = .ok (.iload 5, 2) := by decide +kernel
theorem dX0_fillRow_39 : decode cX0_fillRow 39 = .ok (.iload_n 1, 1) := by decide +kernel
theorem dX0_fillRow_40 : decode cX0_fillRow 40 = .ok (.invokevirtual 68, 3) := by decide +kernel
theorem dX0_fillRow_43 : decode cX0_fillRow 43 = .ok (.ifCond .eq 38, 3) := by decide +kernel
theorem dX0_fillRow_46 : decode cX0_fillRow 46 = .ok (.aload_n 0, 1) := by decide +kernel
theorem dX0_fillRow_47 : decode cX0_fillRow 47 = .ok (.getfield 23, 3) := by decide +kernel
theorem dX0_fillRow_50 : decode cX0_fillRow 50 = .ok (.iload 5, 2) := by decide +kernel
theorem dX0_fillRow_52 : decode cX0_fillRow 52 = .ok (.baload, 1) := by decide +kernel
theorem dX0_fillRow_53 : decode cX0_fillRow 53 = .ok (.ifCond .eq 22, 3) := by decide +kernel
theorem dX0_fillRow_56 : decode cX0_fillRow 56 = .ok (.aload 4, 2) := by decide +kernel
theorem dX0_fillRow_58 : decode cX0_fillRow 58 = .ok (.bipush 25, 2) := by decide +kernel
theorem dX0_fillRow_60 : decode cX0_fillRow 60 = .ok (.dup2, 1) := by decide +kernel
theorem dX0_fillRow_61 : decode cX0_fillRow 61 = .ok (.laload, 1) := by decide +kernel
theorem dX0_fillRow_62 : decode cX0_fillRow 62 = .ok (.aload_n 3, 1) := by decide +kernel
theorem dX0_fillRow_63 : decode cX0_fillRow 63 = .ok (.getfield 72, 3) := by decide +kernel
theorem dX0_fillRow_66 : decode cX0_fillRow 66 = .ok (.iload 5, 2) := by decide +kernel
theorem dX0_fillRow_68 : decode cX0_fillRow 68 = .ok (.iaload, 1) := by decide +kernel
theorem dX0_fillRow_69 : decode cX0_fillRow 69 = .ok (.i2l, 1) := by decide +kernel
theorem dX0_fillRow_70 : decode cX0_fillRow 70 = .ok (.lsub, 1) := by decide +kernel
theorem dX0_fillRow_71 : decode cX0_fillRow 71 = .ok (.lastore, 1) := by decide +kernel
theorem dX0_fillRow_72 : decode cX0_fillRow 72 = .ok (.goto 9, 3) := by decide +kernel
theorem dX0_fillRow_75 : decode cX0_fillRow 75 = .ok (.aload 4, 2) := by decide +kernel
theorem dX0_fillRow_77 : decode cX0_fillRow 77 = .ok (.iload 5, 2) := by decide +kernel
theorem dX0_fillRow_79 : decode cX0_fillRow 79 = .ok (.lconst 1, 1) := by decide +kernel
theorem dX0_fillRow_80 : decode cX0_fillRow 80 = .ok (.lastore, 1) := by decide +kernel
theorem dX0_fillRow_81 : decode cX0_fillRow 81 = .ok (.iinc 5 1, 3) := by decide +kernel
theorem dX0_fillRow_84 : decode cX0_fillRow 84 = .ok (.goto (-55), 3) := by decide +kernel
theorem dX0_fillRow_87 : decode cX0_fillRow 87 = .ok (.return_, 1) := by decide +kernel
set_option maxRecDepth 20000 in
theorem ggX0_eliminate_J7_fill_53178 : GoodIn wsX0_eliminate wsJ7_fill_53178 := goodIn_r _ [8] (by decide +kernel) (by decide +kernel)
set_option maxRecDepth 20000 in
theorem gX0_eliminate_J7_fill_53178 : GoodIn wsX0_eliminate (va_wsS RX0 82 yJ7_fill_53178 wsJ7_fill_53178) := goodIn_app (goodIn_of _ (by decide +kernel)) ggX0_eliminate_J7_fill_53178
set_option maxRecDepth 20000 in
theorem ggX0_eliminate_X0_findPivotRow : GoodIn wsX0_eliminate wsX0_findPivotRow := goodIn_r _ [13, 14, 4, 15, 27, 28, 29, 30, 31, 32, 33, 34] (by decide +kernel) (by decide +kernel)
set_option maxRecDepth 20000 in
theorem gX0_eliminate_X0_findPivotRow : GoodIn wsX0_eliminate (wsV RX0 85 RX0 yX0_findPivotRow wsX0_findPivotRow) := goodIn_app (goodIn_of _ (by decide +kernel)) ggX0_eliminate_X0_findPivotRow
set_option maxRecDepth 20000 in
theorem ggX0_eliminate_X0_clearColumn : GoodIn wsX0_eliminate wsX0_clearColumn := goodIn_r _ [19, 15, 14, 2, 20, 21, 22, 12, 23, 24, 25, 26, 27, 28, 29, 30, 31, 32, 33, 34] (by decide +kernel) (by decide +kernel)
set_option maxRecDepth 20000 in
theorem gX0_eliminate_X0_clearColumn : GoodIn wsX0_eliminate (wsV RX0 89 RX0 yX0_clearColumn wsX0_clearColumn) := goodIn_app (goodIn_of _ (by decide +kernel)) ggX0_eliminate_X0_clearColumn
theorem dX0_eliminate_0 : decode cX0_eliminate 0 = .ok (.aload_n 0, 1) := by decide +kernel
theorem dX0_eliminate_1 : decode cX0_eliminate 1 = .ok (.iconst 0, 1) := by decide +kernel
theorem dX0_eliminate_2 : decode cX0_eliminate 2 = .ok (.putfield 75, 3) := by decide +kernel
theorem dX0_eliminate_5 : decode cX0_eliminate 5 = .ok (.aload_n 0, 1) := by decide +kernel
theorem dX0_eliminate_6 : decode cX0_eliminate 6 = .ok (.lconst 1, 1) := by decide +kernel
theorem dX0_eliminate_7 : decode cX0_eliminate 7 = .ok (.putfield 78, 3) := by decide +kernel
theorem dX0_eliminate_10 : decode cX0_eliminate 10 = .ok (.aload_n 0, 1) := by decide +kernel
theorem dX0_eliminate_11 : decode cX0_eliminate 11 = .ok (.getfield 16, 3) := by decide +kernel
theorem dX0_eliminate_14 : decode cX0_eliminate 14 = .ok (.iconst (-1), 1) := by decide +kernel
theorem dX0_eliminate_15 : decode cX0_eliminate 15 = .ok (.invokestatic 82, 3) := by decide +kernel
theorem dX0_eliminate_18 : decode cX0_eliminate 18 = .ok (.aload_n 0, 1) := by decide +kernel
theorem dX0_eliminate_19 : decode cX0_eliminate 19 = .ok (.getfield 20, 3) := by decide +kernel
theorem dX0_eliminate_22 : decode cX0_eliminate 22 = .ok (.iconst (-1), 1) := by decide +kernel
theorem dX0_eliminate_23 : decode cX0_eliminate 23 = .ok (.invokestatic 82, 3) := by decide +kernel
theorem dX0_eliminate_26 : decode cX0_eliminate 26 = .ok (.iconst 0, 1) := by decide +kernel
theorem dX0_eliminate_27 : decode cX0_eliminate 27 = .ok (.istore_n 1, 1) := by decide +kernel
theorem dX0_eliminate_28 : decode cX0_eliminate 28 = .ok (.iload_n 1, 1) := by decide +kernel
theorem dX0_eliminate_29 : decode cX0_eliminate 29 = .ok (.bipush 25, 2) := by decide +kernel
theorem dX0_eliminate_31 : decode cX0_eliminate 31 = .ok (.if_icmp .ge 50, 3) := by decide +kernel
theorem dX0_eliminate_34 : decode cX0_eliminate 34 = .ok (.aload_n 0, 1) := by decide +kernel
theorem dX0_eliminate_35 : decode cX0_eliminate 35 = .ok (.iload_n 1, 1) := by decide +kernel
theorem dX0_eliminate_36 : decode cX0_eliminate 36 = .ok (.invokevirtual 85, 3) := by decide +kernel
theorem dX0_eliminate_39 : decode cX0_eliminate 39 = .ok (.istore_n 2, 1) := by decide +kernel
theorem dX0_eliminate_40 : decode cX0_eliminate 40 = .ok (.iload_n 2, 1) := by decide +kernel
theorem dX0_eliminate_41 : decode cX0_eliminate 41 = .ok (.iconst (-1), 1) := by decide +kernel
theorem dX0_eliminate_42 : decode cX0_eliminate 42 = .ok (.if_icmp .eq 33, 3) := by decide +kernel
theorem dX0_eliminate_45 : decode cX0_eliminate 45 = .ok (.aload_n 0, 1) := by decide +kernel
theorem dX0_eliminate_46 : decode cX0_eliminate 46 = .ok (.iload_n 1, 1) := by decide +kernel
theorem dX0_eliminate_47 : decode cX0_eliminate 47 = .ok (.iload_n 2, 1) := by decide +kernel
theorem dX0_eliminate_48 : decode cX0_eliminate 48 = .ok (.invokevirtual 89, 3) := by decide +kernel
theorem dX0_eliminate_51 : decode cX0_eliminate 51 = .ok (.aload_n 0, 1) := by decide +kernel
theorem dX0_eliminate_52 : decode cX0_eliminate 52 = .ok (.getfield 16, 3) := by decide +kernel
theorem dX0_eliminate_55 : decode cX0_eliminate 55 = .ok (.iload_n 1, 1) := by decide +kernel
theorem dX0_eliminate_56 : decode cX0_eliminate 56 = .ok (.iload_n 2, 1) := by decide +kernel
theorem dX0_eliminate_57 : decode cX0_eliminate 57 = .ok (.iastore, 1) := by decide +kernel
theorem dX0_eliminate_58 : decode cX0_eliminate 58 = .ok (.aload_n 0, 1) := by decide +kernel
theorem dX0_eliminate_59 : decode cX0_eliminate 59 = .ok (.getfield 20, 3) := by decide +kernel
theorem dX0_eliminate_62 : decode cX0_eliminate 62 = .ok (.iload_n 2, 1) := by decide +kernel
theorem dX0_eliminate_63 : decode cX0_eliminate 63 = .ok (.iload_n 1, 1) := by decide +kernel
theorem dX0_eliminate_64 : decode cX0_eliminate 64 = .ok (.iastore, 1) := by decide +kernel
theorem dX0_eliminate_65 : decode cX0_eliminate 65 = .ok (.aload_n 0, 1) := by decide +kernel
theorem dX0_eliminate_66 : decode cX0_eliminate 66 = .ok (.dup, 1) := by decide +kernel
theorem dX0_eliminate_67 : decode cX0_eliminate 67 = .ok (.getfield 75, 3) := by decide +kernel
theorem dX0_eliminate_70 : decode cX0_eliminate 70 = .ok (.iconst 1, 1) := by decide +kernel
theorem dX0_eliminate_71 : decode cX0_eliminate 71 = .ok (.iadd, 1) := by decide +kernel
theorem dX0_eliminate_72 : decode cX0_eliminate 72 = .ok (.putfield 75, 3) := by decide +kernel
theorem dX0_eliminate_75 : decode cX0_eliminate 75 = .ok (.iinc 1 1, 3) := by decide +kernel
theorem dX0_eliminate_78 : decode cX0_eliminate 78 = .ok (.goto (-50), 3) := by decide +kernel
theorem dX0_eliminate_81 : decode cX0_eliminate 81 = .ok (.return_, 1) := by decide +kernel
theorem dX0_findPivotRow_0 : decode cX0_findPivotRow 0 = .ok (.iconst 0, 1) := by decide +kernel
theorem dX0_findPivotRow_1 : decode cX0_findPivotRow 1 = .ok (.istore_n 2, 1) := by decide +kernel
theorem dX0_findPivotRow_2 : decode cX0_findPivotRow 2 = .ok (.iload_n 2, 1) := by decide +kernel
theorem dX0_findPivotRow_3 : decode cX0_findPivotRow 3 = .ok (.aload_n 0, 1) := by decide +kernel
theorem dX0_findPivotRow_4 : decode cX0_findPivotRow 4 = .ok (.getfield 33, 3) := by decide +kernel
theorem dX0_findPivotRow_7 : decode cX0_findPivotRow 7 = .ok (.if_icmp .ge 34, 3) := by decide +kernel
theorem dX0_findPivotRow_10 : decode cX0_findPivotRow 10 = .ok (.aload_n 0, 1) := by decide +kernel
theorem dX0_findPivotRow_11 : decode cX0_findPivotRow 11 = .ok (.getfield 20, 3) := by decide +kernel
theorem dX0_findPivotRow_14 : decode cX0_findPivotRow 14 = .ok (.iload_n 2, 1) := by decide +kernel
theorem dX0_findPivotRow_15 : decode cX0_findPivotRow 15 = .ok (.iaload, 1) := by decide +kernel
theorem dX0_findPivotRow_16 : decode cX0_findPivotRow 16 = .ok (.iconst (-1), 1) := by decide +kernel
theorem dX0_findPivotRow_17 : decode cX0_findPivotRow 17 = .ok (.if_icmp .ne 18, 3) := by decide +kernel
theorem dX0_findPivotRow_20 : decode cX0_findPivotRow 20 = .ok (.aload_n 0, 1) := by decide +kernel
theorem dX0_findPivotRow_21 : decode cX0_findPivotRow 21 = .ok (.getfield 11, 3) := by decide +kernel
theorem dX0_findPivotRow_24 : decode cX0_findPivotRow 24 = .ok (.iload_n 2, 1) := by decide +kernel
theorem dX0_findPivotRow_25 : decode cX0_findPivotRow 25 = .ok (.aaload, 1) := by decide +kernel
theorem dX0_findPivotRow_26 : decode cX0_findPivotRow 26 = .ok (.iload_n 1, 1) := by decide +kernel
theorem dX0_findPivotRow_27 : decode cX0_findPivotRow 27 = .ok (.laload, 1) := by decide +kernel
theorem dX0_findPivotRow_28 : decode cX0_findPivotRow 28 = .ok (.lconst 0, 1) := by decide +kernel
theorem dX0_findPivotRow_29 : decode cX0_findPivotRow 29 = .ok (.lcmp, 1) := by decide +kernel
theorem dX0_findPivotRow_30 : decode cX0_findPivotRow 30 = .ok (.ifCond .eq 5, 3) := by decide +kernel
theorem dX0_findPivotRow_33 : decode cX0_findPivotRow 33 = .ok (.iload_n 2, 1) := by decide +kernel
theorem dX0_findPivotRow_34 : decode cX0_findPivotRow 34 = .ok (.ireturn, 1) := by decide +kernel
theorem dX0_findPivotRow_35 : decode cX0_findPivotRow 35 = .ok (.iinc 2 1, 3) := by decide +kernel
theorem dX0_findPivotRow_38 : decode cX0_findPivotRow 38 = .ok (.goto (-36), 3) := by decide +kernel
theorem dX0_findPivotRow_41 : decode cX0_findPivotRow 41 = .ok (.iconst (-1), 1) := by decide +kernel
theorem dX0_findPivotRow_42 : decode cX0_findPivotRow 42 = .ok (.ireturn, 1) := by decide +kernel
set_option maxRecDepth 20000 in
theorem ggX0_clearColumn_X0_combine : GoodIn wsX0_clearColumn wsX0_combine := goodIn_r _ [8, 3, 9, 10, 7, 11, 12, 13, 14, 15, 16, 17, 18, 19] (by decide +kernel) (by decide +kernel)
set_option maxRecDepth 20000 in
theorem gX0_clearColumn_X0_combine : GoodIn wsX0_clearColumn (wsV RX0 93 RX0 yX0_combine wsX0_combine) := goodIn_app (goodIn_of _ (by decide +kernel)) ggX0_clearColumn_X0_combine
theorem dX0_clearColumn_0 : decode cX0_clearColumn 0 = .ok (.aload_n 0, 1) := by decide +kernel
theorem dX0_clearColumn_1 : decode cX0_clearColumn 1 = .ok (.getfield 11, 3) := by decide +kernel
theorem dX0_clearColumn_4 : decode cX0_clearColumn 4 = .ok (.iload_n 2, 1) := by decide +kernel
theorem dX0_clearColumn_5 : decode cX0_clearColumn 5 = .ok (.aaload, 1) := by decide +kernel
theorem dX0_clearColumn_6 : decode cX0_clearColumn 6 = .ok (.iload_n 1, 1) := by decide +kernel
theorem dX0_clearColumn_7 : decode cX0_clearColumn 7 = .ok (.laload, 1) := by decide +kernel
theorem dX0_clearColumn_8 : decode cX0_clearColumn 8 = .ok (.lstore_n 3, 1) := by decide +kernel
theorem dX0_clearColumn_9 : decode cX0_clearColumn 9 = .ok (.iconst 0, 1) := by decide +kernel
theorem dX0_clearColumn_10 : decode cX0_clearColumn 10 = .ok (.istore 5, 2) := by decide +kernel
theorem dX0_clearColumn_12 : decode cX0_clearColumn 12 = .ok (.iload 5, 2) := by decide +kernel
theorem dX0_clearColumn_14 : decode cX0_clearColumn 14 = .ok (.aload_n 0, 1) := by decide +kernel
theorem dX0_clearColumn_15 : decode cX0_clearColumn 15 = .ok (.getfield 33, 3) := by decide +kernel
theorem dX0_clearColumn_18 : decode cX0_clearColumn 18 = .ok (.if_icmp .ge 56, 3) := by decide +kernel
theorem dX0_clearColumn_21 : decode cX0_clearColumn 21 = .ok (.iload 5, 2) := by decide +kernel
theorem dX0_clearColumn_23 : decode cX0_clearColumn 23 = .ok (.iload_n 2, 1) := by decide +kernel
theorem dX0_clearColumn_24 : decode cX0_clearColumn 24 = .ok (.if_icmp .eq 44, 3) := by decide +kernel
theorem dX0_clearColumn_27 : decode cX0_clearColumn 27 = .ok (.lload_n 3, 1) := by decide +kernel
theorem dX0_clearColumn_28 : decode cX0_clearColumn 28 = .ok (.aload_n 0, 1) := by decide +kernel
theorem dX0_clearColumn_29 : decode cX0_clearColumn 29 = .ok (.getfield 78, 3) := by decide +kernel
theorem dX0_clearColumn_32 : decode cX0_clearColumn 32 = .ok (.lcmp, 1) := by decide +kernel
theorem dX0_clearColumn_33 : decode cX0_clearColumn 33 = .ok (.ifCond .ne 17, 3) := by decide +kernel
theorem dX0_clearColumn_36 : decode cX0_clearColumn 36 = .ok (.aload_n 0, 1) := by decide +kernel
theorem dX0_clearColumn_37 : decode cX0_clearColumn 37 = .ok (.getfield 11, 3) := by decide +kernel
theorem dX0_clearColumn_40 : decode cX0_clearColumn 40 = .ok (.iload 5, 2) := by decide +kernel
theorem dX0_clearColumn_42 : decode cX0_clearColumn 42 = .ok (.aaload, 1) := by decide +kernel
theorem dX0_clearColumn_43 : decode cX0_clearColumn 43 = .ok (.iload_n 1, 1) := by decide +kernel
theorem dX0_clearColumn_44 : decode cX0_clearColumn 44 = .ok (.laload, 1) := by decide +kernel
theorem dX0_clearColumn_45 : decode cX0_clearColumn 45 = .ok (.lconst 0, 1) := by decide +kernel
theorem dX0_clearColumn_46 : decode cX0_clearColumn 46 = .ok (.lcmp, 1) := by decide +kernel
theorem dX0_clearColumn_47 : decode cX0_clearColumn 47 = .ok (.ifCond .eq 21, 3) := by decide +kernel
theorem dX0_clearColumn_50 : decode cX0_clearColumn 50 = .ok (.aload_n 0, 1) := by decide +kernel
theorem dX0_clearColumn_51 : decode cX0_clearColumn 51 = .ok (.aload_n 0, 1) := by decide +kernel
theorem dX0_clearColumn_52 : decode cX0_clearColumn 52 = .ok (.getfield 11, 3) := by decide +kernel
theorem dX0_clearColumn_55 : decode cX0_clearColumn 55 = .ok (.iload 5, 2) := by decide +kernel
theorem dX0_clearColumn_57 : decode cX0_clearColumn 57 = .ok (.aaload, 1) := by decide +kernel
theorem dX0_clearColumn_58 : decode cX0_clearColumn 58 = .ok (.aload_n 0, 1) := by decide +kernel
theorem dX0_clearColumn_59 : decode cX0_clearColumn 59 = .ok (.getfield 11, 3) := by decide +kernel
theorem dX0_clearColumn_62 : decode cX0_clearColumn 62 = .ok (.iload_n 2, 1) := by decide +kernel
theorem dX0_clearColumn_63 : decode cX0_clearColumn 63 = .ok (.aaload, 1) := by decide +kernel
theorem dX0_clearColumn_64 : decode cX0_clearColumn 64 = .ok (.iload_n 1, 1) := by decide +kernel
theorem dX0_clearColumn_65 : decode cX0_clearColumn 65 = .ok (.invokevirtual 93, 3) := by decide +kernel
theorem dX0_clearColumn_68 : decode cX0_clearColumn 68 = .ok (.iinc 5 1, 3) := by decide +kernel
theorem dX0_clearColumn_71 : decode cX0_clearColumn 71 = .ok (.goto (-59), 3) := by decide +kernel
theorem dX0_clearColumn_74 : decode cX0_clearColumn 74 = .ok (.aload_n 0, 1) := by decide +kernel
theorem dX0_clearColumn_75 : decode cX0_clearColumn 75 = .ok (.lload_n 3, 1) := by decide +kernel
theorem dX0_clearColumn_76 : decode cX0_clearColumn 76 = .ok (.putfield 78, 3) := by decide +kernel
theorem dX0_clearColumn_79 : decode cX0_clearColumn 79 = .ok (.return_, 1) := by decide +kernel
set_option maxRecDepth 20000 in
theorem ggX0_combine_X0_quotient : GoodIn wsX0_combine wsX0_quotient := goodIn_r _ [5] (by decide +kernel) (by decide +kernel)
set_option maxRecDepth 20000 in
theorem gX0_combine_X0_quotient : GoodIn wsX0_combine (va_wsS RX0 97 yX0_quotient wsX0_quotient) := goodIn_app (goodIn_of _ (by decide +kernel)) ggX0_combine_X0_quotient
theorem dX0_combine_0 : decode cX0_combine 0 = .ok (.aload_n 2, 1) := by decide +kernel
theorem dX0_combine_1 : decode cX0_combine 1 = .ok (.iload_n 3, 1) := by decide +kernel
theorem dX0_combine_2 : decode cX0_combine 2 = .ok (.laload, 1) := by decide +kernel
theorem dX0_combine_3 : decode cX0_combine 3 = .ok (.lstore 4, 2) := by decide +kernel
theorem dX0_combine_5 : decode cX0_combine 5 = .ok (.aload_n 1, 1) := by decide +kernel
theorem dX0_combine_6 : decode cX0_combine 6 = .ok (.iload_n 3, 1) := by decide +kernel
theorem dX0_combine_7 : decode cX0_combine 7 = .ok (.laload, 1) := by decide +kernel
theorem dX0_combine_8 : decode cX0_combine 8 = .ok (.lstore 6, 2) := by decide +kernel
theorem dX0_combine_10 : decode cX0_combine 10 = .ok (.iconst 0, 1) := by decide +kernel
theorem dX0_combine_11 : decode cX0_combine 11 = .ok (.istore 8, 2) := by decide +kernel
theorem dX0_combine_13 : decode cX0_combine 13 = .ok (.iload 8, 2) := by decide +kernel
theorem dX0_combine_15 : decode cX0_combine 15 = .ok (.bipush 25, 2) := by decide +kernel
theorem dX0_combine_17 : decode cX0_combine 17 = .ok (.if_icmp .gt 35, 3) := by decide +kernel
theorem dX0_combine_20 : decode cX0_combine 20 = .ok (.aload_n 1, 1) := by decide +kernel
theorem dX0_combine_21 : decode cX0_combine 21 = .ok (.iload 8, 2) := by decide +kernel
theorem dX0_combine_23 : decode cX0_combine 23 = .ok (.lload 4, 2) := by decide +kernel
theorem dX0_combine_25 : decode cX0_combine 25 = .ok (.aload_n 1, 1) := by decide +kernel
theorem dX0_combine_26 : decode cX0_combine 26 = .ok (.iload 8, 2) := by decide +kernel
theorem dX0_combine_28 : decode cX0_combine 28 = .ok (.laload, 1) := by decide +kernel
theorem dX0_combine_29 : decode cX0_combine 29 = .ok (.lmul, 1) := by decide +kernel
theorem dX0_combine_30 : decode cX0_combine 30 = .ok (.lload 6, 2) := by decide +kernel
theorem dX0_combine_32 : decode cX0_combine 32 = .ok (.aload_n 2, 1) := by decide +kernel
theorem dX0_combine_33 : decode cX0_combine 33 = .ok (.iload 8, 2) := by decide +kernel
theorem dX0_combine_35 : decode cX0_combine 35 = .ok (.laload, 1) := by decide +kernel
theorem dX0_combine_36 : decode cX0_combine 36 = .ok (.lmul, 1) := by decide +kernel
theorem dX0_combine_37 : decode cX0_combine 37 = .ok (.lsub, 1) := by decide +kernel
theorem dX0_combine_38 : decode cX0_combine 38 = .ok (.aload_n 0, 1) := by decide +kernel
theorem dX0_combine_39 : decode cX0_combine 39 = .ok (.getfield 78, 3) := by decide +kernel
theorem dX0_combine_42 : decode cX0_combine 42 = .ok (.invokestatic 97, 3) := by decide +kernel
theorem dX0_combine_45 : decode cX0_combine 45 = .ok (.lastore, 1) := by decide +kernel
theorem dX0_combine_46 : decode cX0_combine 46 = .ok (.iinc 8 1, 3) := by decide +kernel
theorem dX0_combine_49 : decode cX0_combine 49 = .ok (.goto (-36), 3) := by decide +kernel
theorem dX0_combine_52 : decode cX0_combine 52 = .ok (.return_, 1) := by decide +kernel
theorem dX0_quotient_0 : decode cX0_quotient 0 = .ok (.lload_n 2, 1) := by decide +kernel
theorem dX0_quotient_1 : decode cX0_quotient 1 = .ok (.lconst 0, 1) := by decide +kernel
theorem dX0_quotient_2 : decode cX0_quotient 2 = .ok (.lcmp, 1) := by decide +kernel
theorem dX0_quotient_3 : decode cX0_quotient 3 = .ok (.ifCond .ne 7, 3) := by decide +kernel
theorem dX0_quotient_6 : decode cX0_quotient 6 = .ok (.lconst 0, 1) := by decide +kernel
theorem dX0_quotient_7 : decode cX0_quotient 7 = .ok (.goto 6, 3) := by decide +kernel
theorem dX0_quotient_10 : decode cX0_quotient 10 = .ok (.lload_n 0, 1) := by decide +kernel
theorem dX0_quotient_11 : decode cX0_quotient 11 = .ok (.lload_n 2, 1) := by decide +kernel
theorem dX0_quotient_12 : decode cX0_quotient 12 = .ok (.ldiv, 1) := by decide +kernel
theorem dX0_quotient_13 : decode cX0_quotient 13 = .ok (.lreturn, 1) := by decide +kernel
theorem dX0_haveSolution_0 : decode cX0_haveSolution 0 = .ok (.iconst 0, 1) := by decide +kernel
theorem dX0_haveSolution_1 : decode cX0_haveSolution 1 = .ok (.istore_n 1, 1) := by decide +kernel
theorem dX0_haveSolution_2 : decode cX0_haveSolution 2 = .ok (.iload_n 1, 1) := by decide +kernel
theorem dX0_haveSolution_3 : decode cX0_haveSolution 3 = .ok (.aload_n 0, 1) := by decide +kernel
theorem dX0_haveSolution_4 : decode cX0_haveSolution 4 = .ok (.getfield 33, 3) := by decide +kernel
theorem dX0_haveSolution_7 : decode cX0_haveSolution 7 = .ok (.if_icmp .ge 35, 3) := by decide +kernel
theorem dX0_haveSolution_10 : decode cX0_haveSolution 10 = .ok (.aload_n 0, 1) := by decide +kernel
theorem dX0_haveSolution_11 : decode cX0_haveSolution 11 = .ok (.getfield 20, 3) := by decide +kernel
theorem dX0_haveSolution_14 : decode cX0_haveSolution 14 = .ok (.iload_n 1, 1) := by decide +kernel
theorem dX0_haveSolution_15 : decode cX0_haveSolution 15 = .ok (.iaload, 1) := by decide +kernel
theorem dX0_haveSolution_16 : decode cX0_haveSolution 16 = .ok (.iconst (-1), 1) := by decide +kernel
theorem dX0_haveSolution_17 : decode cX0_haveSolution 17 = .ok (.if_icmp .ne 19, 3) := by decide +kernel
theorem dX0_haveSolution_20 : decode cX0_haveSolution 20 = .ok (.aload_n 0, 1) := by decide +kernel
theorem dX0_haveSolution_21 : decode cX0_haveSolution 21 = .ok (.getfield 11, 3) := by decide +kernel
theorem dX0_haveSolution_24 : decode cX0_haveSolution 24 = .ok (.iload_n 1, 1) := by decide +kernel
theorem dX0_haveSolution_25 : decode cX0_haveSolution 25 = .ok (.aaload, 1) := by decide +kernel
theorem dX0_haveSolution_26 : decode cX0_haveSolution 26 = .ok (.bipush 25, 2) := by decide +kernel
theorem dX0_haveSolution_28 : decode cX0_haveSolution 28 = .ok (.laload, 1) := by decide +kernel
theorem dX0_haveSolution_29 : decode cX0_haveSolution 29 = .ok (.lconst 0, 1) := by decide +kernel
theorem dX0_haveSolution_30 : decode cX0_haveSolution 30 = .ok (.lcmp, 1) := by decide +kernel
theorem dX0_haveSolution_31 : decode cX0_haveSolution 31 = .ok (.ifCond .eq 5, 3) := by decide +kernel
theorem dX0_haveSolution_34 : decode cX0_haveSolution 34 = .ok (.iconst 0, 1) := by decide +kernel
theorem dX0_haveSolution_35 : decode cX0_haveSolution 35 = .ok (.ireturn, 1) := by decide +kernel
theorem dX0_haveSolution_36 : decode cX0_haveSolution 36 = .ok (.iinc 1 1, 3) := by decide +kernel
theorem dX0_haveSolution_39 : decode cX0_haveSolution 39 = .ok (.goto (-37), 3) := by decide +kernel
theorem dX0_haveSolution_42 : decode cX0_haveSolution 42 = .ok (.iconst 1, 1) := by decide +kernel
theorem dX0_haveSolution_43 : decode cX0_haveSolution 43 = .ok (.ireturn, 1) := by decide +kernel
set_option maxRecDepth 20000 in
theorem ggX0_determine_X0_firstFreePart : GoodIn wsX0_determine wsX0_firstFreePart := goodIn_r _ [5, 6, 7, 8, 4, 9, 10, 11, 12, 13, 14, 15, 16, 17, 18, 19, 20] (by decide +kernel) (by decide +kernel)
set_option maxRecDepth 20000 in
theorem gX0_determine_X0_firstFreePart : GoodIn wsX0_determine (wsV RX0 101 RX0 yX0_firstFreePart wsX0_firstFreePart) := goodIn_app (goodIn_of _ (by decide +kernel)) ggX0_determine_X0_firstFreePart
theorem dX0_determine_0 : decode cX0_determine 0 = .ok (.aload_n 0, 1) := by decide +kernel
theorem dX0_determine_1 : decode cX0_determine 1 = .ok (.iload_n 1, 1) := by decide +kernel
theorem dX0_determine_2 : decode cX0_determine 2 = .ok (.invokevirtual 101, 3) := by decide +kernel
theorem dX0_determine_5 : decode cX0_determine 5 = .ok (.iconst (-1), 1) := by decide +kernel
theorem dX0_determine_6 : decode cX0_determine 6 = .ok (.if_icmp .ne 7, 3) := by decide +kernel
theorem dX0_determine_9 : decode cX0_determine 9 = .ok (.iconst 1, 1) := by decide +kernel
theorem dX0_determine_10 : decode cX0_determine 10 = .ok (.goto 4, 3) := by decide +kernel
theorem dX0_determine_13 : decode cX0_determine 13 = .ok (.iconst 0, 1) := by decide +kernel
theorem dX0_determine_14 : decode cX0_determine 14 = .ok (.ireturn, 1) := by decide +kernel
set_option maxRecDepth 20000 in
theorem ggX0_determineWith_X0_firstFreePart : GoodIn wsX0_determineWith wsX0_firstFreePart := goodIn_r _ [5, 6, 7, 8, 4, 9, 10, 11, 12, 17, 18, 19, 20, 21, 22, 23, 24] (by decide +kernel) (by decide +kernel)
set_option maxRecDepth 20000 in
theorem gX0_determineWith_X0_firstFreePart : GoodIn wsX0_determineWith (wsV RX0 101 RX0 yX0_firstFreePart wsX0_firstFreePart) := goodIn_app (goodIn_of _ (by decide +kernel)) ggX0_determineWith_X0_firstFreePart
set_option maxRecDepth 20000 in
theorem ggX0_determineWith_X0_determine : GoodIn wsX0_determineWith wsX0_determine := goodIn_r _ [16, 1, 2, 3, 4, 5, 6, 7, 8, 9, 10, 11, 12, 17, 18, 19, 20, 21, 22, 23, 24] (by decide +kernel) (by decide +kernel)
set_option maxRecDepth 20000 in
theorem gX0_determineWith_X0_determine : GoodIn wsX0_determineWith (wsV RX0 104 RX0 yX0_determine wsX0_determine) := goodIn_app (goodIn_of _ (by decide +kernel)) ggX0_determineWith_X0_determine
set_option maxRecDepth 20000 in
theorem ggX0_determineWith_X0_freePart : GoodIn wsX0_determineWith wsX0_freePart := goodIn_r _ [9, 10, 11, 12, 17, 18, 19, 20, 21, 22, 23, 24] (by decide +kernel) (by decide +kernel)
set_option maxRecDepth 20000 in
theorem gX0_determineWith_X0_freePart : GoodIn wsX0_determineWith (wsV RX0 107 RX0 yX0_freePart wsX0_freePart) := goodIn_app (goodIn_of _ (by decide +kernel)) ggX0_determineWith_X0_freePart
theorem dX0_determineWith_0 : decode cX0_determineWith 0 = .ok (.aload_n 0, 1) := by decide +kernel
theorem dX0_determineWith_1 : decode cX0_determineWith 1 = .ok (.iload_n 1, 1) := by decide +kernel
theorem dX0_determineWith_2 : decode cX0_determineWith 2 = .ok (.invokevirtual 101, 3) := by decide +kernel
theorem dX0_determineWith_5 : decode cX0_determineWith 5 = .ok (.istore_n 3, 1) := by decide +kernel
theorem dX0_determineWith_6 : decode cX0_determineWith 6 = .ok (.iload_n 3, 1) := by decide +kernel
theorem dX0_determineWith_7 : decode cX0_determineWith 7 = .ok (.iconst (-1), 1) := by decide +kernel
theorem dX0_determineWith_8 : decode cX0_determineWith 8 = .ok (.if_icmp .ne 9, 3) := by decide +kernel
theorem dX0_determineWith_11 : decode cX0_determineWith 11 = .ok (.aload_n 0, 1) := by decide +kernel
theorem dX0_determineWith_12 : decode cX0_determineWith 12 = .ok (.iload_n 2, 1) := by decide +kernel
theorem dX0_determineWith_13 : decode cX0_determineWith 13 = .ok (.invokevirtual 104, 3) := by decide +kernel
theorem dX0_determineWith_16 : decode cX0_determineWith 16 = .ok (.ireturn, 1) := by decide +kernel
theorem dX0_determineWith_17 : decode cX0_determineWith 17 = .ok (.iconst 0, 1) := by decide +kernel
theorem dX0_determineWith_18 : decode cX0_determineWith 18 = .ok (.istore 4, 2) := by decide +kernel
theorem dX0_determineWith_20 : decode cX0_determineWith 20 = .ok (.iload 4, 2) := by decide +kernel
theorem dX0_determineWith_22 : decode cX0_determineWith 22 = .ok (.bipush 25, 2) := by decide +kernel
theorem dX0_determineWith_24 : decode cX0_determineWith 24 = .ok (.if_icmp .ge 43, 3) := by decide +kernel
theorem dX0_determineWith_27 : decode cX0_determineWith 27 = .ok (.aload_n 0, 1) := by decide +kernel
theorem dX0_determineWith_28 : decode cX0_determineWith 28 = .ok (.iload_n 2, 1) := by decide +kernel
theorem dX0_determineWith_29 : decode cX0_determineWith 29 = .ok (.iload 4, 2) := by decide +kernel
theorem dX0_determineWith_31 : decode cX0_determineWith 31 = .ok (.invokevirtual 107, 3) := by decide +kernel
theorem dX0_determineWith_34 : decode cX0_determineWith 34 = .ok (.aload_n 0, 1) := by decide +kernel
theorem dX0_determineWith_35 : decode cX0_determineWith 35 = .ok (.iload_n 1, 1) := by decide +kernel
theorem dX0_determineWith_36 : decode cX0_determineWith 36 = .ok (.iload_n 3, 1) := by decide +kernel
theorem dX0_determineWith_37 : decode cX0_determineWith 37 = .ok (.invokevirtual 107, 3) := by decide +kernel
theorem dX0_determineWith_40 : decode cX0_determineWith 40 = .ok (.lmul, 1) := by decide +kernel
theorem dX0_determineWith_41 : decode cX0_determineWith 41 = .ok (.aload_n 0, 1) := by decide +kernel
theorem dX0_determineWith_42 : decode cX0_determineWith 42 = .ok (.iload_n 2, 1) := by decide +kernel
theorem dX0_determineWith_43 : decode cX0_determineWith 43 = .ok (.iload_n 3, 1) := by decide +kernel
theorem dX0_determineWith_44 : decode cX0_determineWith 44 = .ok (.invokevirtual 107, 3) := by decide +kernel
theorem dX0_determineWith_47 : decode cX0_determineWith 47 = .ok (.aload_n 0, 1) := by decide +kernel
theorem dX0_determineWith_48 : decode cX0_determineWith 48 = .ok (.iload_n 1, 1) := by decide +kernel
theorem dX0_determineWith_49 : decode cX0_determineWith 49 = .ok (.iload 4, 2) := by decide +kernel
theorem dX0_determineWith_51 : decode cX0_determineWith 51 = .ok (.invokevirtual 107, 3) := by decide +kernel
theorem dX0_determineWith_54 : decode cX0_determineWith 54 = .ok (.lmul, 1) := by decide +kernel
theorem dX0_determineWith_55 : decode cX0_determineWith 55 = .ok (.lcmp, 1) := by decide +kernel
theorem dX0_determineWith_56 : decode cX0_determineWith 56 = .ok (.ifCond .eq 5, 3) := by decide +kernel
theorem dX0_determineWith_59 : decode cX0_determineWith 59 = .ok (.iconst 0, 1) := by decide +kernel
theorem dX0_determineWith_60 : decode cX0_determineWith 60 = .ok (.ireturn, 1) := by decide +kernel
theorem dX0_determineWith_61 : decode cX0_determineWith 61 = .ok (.iinc 4 1, 3) := by decide +kernel
theorem dX0_determineWith_64 : decode cX0_determineWith 64 = .ok (.goto (-44), 3) := by decide +kernel
theorem dX0_determineWith_67 : decode cX0_determineWith 67 = .ok (.iconst 1, 1) := by decide +kernel
theorem dX0_determineWith_68 : decode cX0_determineWith 68 = .ok (.ireturn, 1) := by decide +kernel
set_option maxRecDepth 20000 in
theorem ggX0_firstFreePart_X0_freePart : GoodIn wsX0_firstFreePart wsX0_freePart := goodIn_r _ [5, 6, 7, 8, 9, 10, 11, 12, 13, 14, 15, 16] (by decide +kernel) (by decide +kernel)
set_option maxRecDepth 20000 in
theorem gX0_firstFreePart_X0_freePart : GoodIn wsX0_firstFreePart (wsV RX0 107 RX0 yX0_freePart wsX0_freePart) := goodIn_app (goodIn_of _ (by decide +kernel)) ggX0_firstFreePart_X0_freePart
theorem dX0_firstFreePart_0 : decode cX0_firstFreePart 0 = .ok (.iconst 0, 1) := by decide +kernel
theorem dX0_firstFreePart_1 : decode cX0_firstFreePart 1 = .ok (.istore_n 2, 1) := by decide +kernel
theorem dX0_firstFreePart_2 : decode cX0_firstFreePart 2 = .ok (.iload_n 2, 1) := by decide +kernel
theorem dX0_firstFreePart_3 : decode cX0_firstFreePart 3 = .ok (.bipush 25, 2) := by decide +kernel
theorem dX0_firstFreePart_5 : decode cX0_firstFreePart 5 = .ok (.if_icmp .ge 22, 3) := by decide +kernel
theorem dX0_firstFreePart_8 : decode cX0_firstFreePart 8 = .ok (.aload_n 0, 1) := by decide +kernel
theorem dX0_firstFreePart_9 : decode cX0_firstFreePart 9 = .ok (.iload_n 1, 1) := by decide +kernel
theorem dX0_firstFreePart_10 : decode cX0_firstFreePart 10 = .ok (.iload_n 2, 1) := by decide +kernel
theorem dX0_firstFreePart_11 : decode cX0_firstFreePart 11 = .ok (.invokevirtual 107, 3) := by decide +kernel
theorem dX0_firstFreePart_14 : decode cX0_firstFreePart 14 = .ok (.lconst 0, 1) := by decide +kernel
theorem dX0_firstFreePart_15 : decode cX0_firstFreePart 15 = .ok (.lcmp, 1) := by decide +kernel
theorem dX0_firstFreePart_16 : decode cX0_firstFreePart 16 = .ok (.ifCond .eq 5, 3) := by decide +kernel
theorem dX0_firstFreePart_19 : decode cX0_firstFreePart 19 = .ok (.iload_n 2, 1) := by decide +kernel
theorem dX0_firstFreePart_20 : decode cX0_firstFreePart 20 = .ok (.ireturn, 1) := by decide +kernel
theorem dX0_firstFreePart_21 : decode cX0_firstFreePart 21 = .ok (.iinc 2 1, 3) := by decide +kernel
theorem dX0_firstFreePart_24 : decode cX0_firstFreePart 24 = .ok (.goto (-22), 3) := by decide +kernel
theorem dX0_firstFreePart_27 : decode cX0_firstFreePart 27 = .ok (.iconst (-1), 1) := by decide +kernel
theorem dX0_firstFreePart_28 : decode cX0_firstFreePart 28 = .ok (.ireturn, 1) := by decide +kernel
theorem dX0_freePart_0 : decode cX0_freePart 0 = .ok (.aload_n 0, 1) := by decide +kernel
theorem dX0_freePart_1 : decode cX0_freePart 1 = .ok (.getfield 23, 3) := by decide +kernel
theorem dX0_freePart_4 : decode cX0_freePart 4 = .ok (.iload_n 1, 1) := by decide +kernel
theorem dX0_freePart_5 : decode cX0_freePart 5 = .ok (.baload, 1) := by decide +kernel
theorem dX0_freePart_6 : decode cX0_freePart 6 = .ok (.ifCond .eq 5, 3) := by decide +kernel
theorem dX0_freePart_9 : decode cX0_freePart 9 = .ok (.lconst 0, 1) := by decide +kernel
theorem dX0_freePart_10 : decode cX0_freePart 10 = .ok (.lreturn, 1) := by decide +kernel
theorem dX0_freePart_11 : decode cX0_freePart 11 = .ok (.aload_n 0, 1) := by decide +kernel
theorem dX0_freePart_12 : decode cX0_freePart 12 = .ok (.getfield 16, 3) := by decide +kernel
theorem dX0_freePart_15 : decode cX0_freePart 15 = .ok (.iload_n 1, 1) := by decide +kernel
theorem dX0_freePart_16 : decode cX0_freePart 16 = .ok (.iaload, 1) := by decide +kernel
theorem dX0_freePart_17 : decode cX0_freePart 17 = .ok (.istore_n 3, 1) := by decide +kernel
theorem dX0_freePart_18 : decode cX0_freePart 18 = .ok (.iload_n 3, 1) := by decide +kernel
theorem dX0_freePart_19 : decode cX0_freePart 19 = .ok (.iconst (-1), 1) := by decide +kernel
theorem dX0_freePart_20 : decode cX0_freePart 20 = .ok (.if_icmp .ne 14, 3) := by decide +kernel
theorem dX0_freePart_23 : decode cX0_freePart 23 = .ok (.iload_n 1, 1) := by decide +kernel
theorem dX0_freePart_24 : decode cX0_freePart 24 = .ok (.iload_n 2, 1) := by decide +kernel
theorem dX0_freePart_25 : decode cX0_freePart 25 = .ok (.if_icmp .ne 7, 3) := by decide +kernel
theorem dX0_freePart_28 : decode cX0_freePart 28 = .ok (.lconst 1, 1) := by decide +kernel
theorem dX0_freePart_29 : decode cX0_freePart 29 = .ok (.goto 4, 3) := by decide +kernel
theorem dX0_freePart_32 : decode cX0_freePart 32 = .ok (.lconst 0, 1) := by decide +kernel
theorem dX0_freePart_33 : decode cX0_freePart 33 = .ok (.lreturn, 1) := by decide +kernel
theorem dX0_freePart_34 : decode cX0_freePart 34 = .ok (.iload_n 1, 1) := by decide +kernel
theorem dX0_freePart_35 : decode cX0_freePart 35 = .ok (.iload_n 2, 1) := by decide +kernel
theorem dX0_freePart_36 : decode cX0_freePart 36 = .ok (.if_icmp .ne 7, 3) := by decide +kernel
theorem dX0_freePart_39 : decode cX0_freePart 39 = .ok (.lconst 0, 1) := by decide +kernel
theorem dX0_freePart_40 : decode cX0_freePart 40 = .ok (.goto 11, 3) := by decide +kernel
theorem dX0_freePart_43 : decode cX0_freePart 43 = .ok (.aload_n 0, 1) := by decide +kernel
theorem dX0_freePart_44 : decode cX0_freePart 44 = .ok (.getfield 11, 3) := by decide +kernel
theorem dX0_freePart_47 : decode cX0_freePart 47 = .ok (.iload_n 3, 1) := by decide +kernel
theorem dX0_freePart_48 : decode cX0_freePart 48 = .ok (.aaload, 1) := by decide +kernel
theorem dX0_freePart_49 : decode cX0_freePart 49 = .ok (.iload_n 2, 1) := by decide +kernel
theorem dX0_freePart_50 : decode cX0_freePart 50 = .ok (.laload, 1) := by decide +kernel
theorem dX0_freePart_51 : decode cX0_freePart 51 = .ok (.lreturn, 1) := by decide +kernel
set_option maxRecDepth 20000 in
theorem ggX0_numeratorOf_X0_divisorOfPivotAnd : GoodIn wsX0_numeratorOf wsX0_divisorOfPivotAnd := goodIn_r _ [9, 4, 10, 11, 12, 13, 17, 18, 19, 20, 21, 22, 23, 24] (by decide +kernel) (by decide +kernel)
set_option maxRecDepth 20000 in
theorem gX0_numeratorOf_X0_divisorOfPivotAnd : GoodIn wsX0_numeratorOf (wsV RX0 111 RX0 yX0_divisorOfPivotAnd wsX0_divisorOfPivotAnd) := goodIn_app (goodIn_of _ (by decide +kernel)) ggX0_numeratorOf_X0_divisorOfPivotAnd
set_option maxRecDepth 20000 in
theorem ggX0_numeratorOf_X0_quotient : GoodIn wsX0_numeratorOf wsX0_quotient := goodIn_r _ [16] (by decide +kernel) (by decide +kernel)
set_option maxRecDepth 20000 in
theorem gX0_numeratorOf_X0_quotient : GoodIn wsX0_numeratorOf (va_wsS RX0 97 yX0_quotient wsX0_quotient) := goodIn_app (goodIn_of _ (by decide +kernel)) ggX0_numeratorOf_X0_quotient
theorem dX0_numeratorOf_0 : decode cX0_numeratorOf 0 = .ok (.aload_n 0, 1) := by decide +kernel
theorem dX0_numeratorOf_1 : decode cX0_numeratorOf 1 = .ok (.getfield 16, 3) := by decide +kernel
theorem dX0_numeratorOf_4 : decode cX0_numeratorOf 4 = .ok (.iload_n 1, 1) := by decide +kernel
theorem dX0_numeratorOf_5 : decode cX0_numeratorOf 5 = .ok (.iaload, 1) := by decide +kernel
theorem dX0_numeratorOf_6 : decode cX0_numeratorOf 6 = .ok (.istore_n 3, 1) := by decide +kernel
theorem dX0_numeratorOf_7 : decode cX0_numeratorOf 7 = .ok (.iload_n 3, 1) := by decide +kernel
theorem dX0_numeratorOf_8 : decode cX0_numeratorOf 8 = .ok (.iconst (-1), 1) := by decide +kernel
theorem dX0_numeratorOf_9 : decode cX0_numeratorOf 9 = .ok (.if_icmp .ne 11, 3) := by decide +kernel
theorem dX0_numeratorOf_12 : decode cX0_numeratorOf 12 = .ok (.aload_n 2, 1) := by decide +kernel
theorem dX0_numeratorOf_13 : decode cX0_numeratorOf 13 = .ok (.getfield 72, 3) := by decide +kernel
theorem dX0_numeratorOf_16 : decode cX0_numeratorOf 16 = .ok (.iload_n 1, 1) := by decide +kernel
theorem dX0_numeratorOf_17 : decode cX0_numeratorOf 17 = .ok (.iaload, 1) := by decide +kernel
theorem dX0_numeratorOf_18 : decode cX0_numeratorOf 18 = .ok (.i2l, 1) := by decide +kernel
theorem dX0_numeratorOf_19 : decode cX0_numeratorOf 19 = .ok (.lreturn, 1) := by decide +kernel
theorem dX0_numeratorOf_20 : decode cX0_numeratorOf 20 = .ok (.aload_n 0, 1) := by decide +kernel
theorem dX0_numeratorOf_21 : decode cX0_numeratorOf 21 = .ok (.getfield 11, 3) := by decide +kernel
theorem dX0_numeratorOf_24 : decode cX0_numeratorOf 24 = .ok (.iload_n 3, 1) := by decide +kernel
theorem dX0_numeratorOf_25 : decode cX0_numeratorOf 25 = .ok (.aaload, 1) := by decide +kernel
theorem dX0_numeratorOf_26 : decode cX0_numeratorOf 26 = .ok (.bipush 25, 2) := by decide +kernel
theorem dX0_numeratorOf_28 : decode cX0_numeratorOf 28 = .ok (.laload, 1) := by decide +kernel
theorem dX0_numeratorOf_29 : decode cX0_numeratorOf 29 = .ok (.lstore 4, 2) := by decide +kernel
theorem dX0_numeratorOf_31 : decode cX0_numeratorOf 31 = .ok (.aload_n 0, 1) := by decide +kernel
theorem dX0_numeratorOf_32 : decode cX0_numeratorOf 32 = .ok (.getfield 78, 3) := by decide +kernel
theorem dX0_numeratorOf_35 : decode cX0_numeratorOf 35 = .ok (.lconst 0, 1) := by decide +kernel
theorem dX0_numeratorOf_36 : decode cX0_numeratorOf 36 = .ok (.lcmp, 1) := by decide +kernel
theorem dX0_numeratorOf_37 : decode cX0_numeratorOf 37 = .ok (.ifCond .ge 9, 3) := by decide +kernel
theorem dX0_numeratorOf_40 : decode cX0_numeratorOf 40 = .ok (.lload 4, 2) := by decide +kernel
theorem dX0_numeratorOf_42 : decode cX0_numeratorOf 42 = .ok (.lneg, 1) := by decide +kernel
theorem dX0_numeratorOf_43 : decode cX0_numeratorOf 43 = .ok (.goto 5, 3) := by decide +kernel
theorem dX0_numeratorOf_46 : decode cX0_numeratorOf 46 = .ok (.lload 4, 2) := by decide +kernel
theorem dX0_numeratorOf_48 : decode cX0_numeratorOf 48 = .ok (.aload_n 0, 1) := by decide +kernel
theorem dX0_numeratorOf_49 : decode cX0_numeratorOf 49 = .ok (.lload 4, 2) := by decide +kernel
theorem dX0_numeratorOf_51 : decode cX0_numeratorOf 51 = .ok (.invokevirtual 111, 3) := by decide +kernel
theorem dX0_numeratorOf_54 : decode cX0_numeratorOf 54 = .ok (.invokestatic 97, 3) := by decide +kernel
theorem dX0_numeratorOf_57 : decode cX0_numeratorOf 57 = .ok (.lreturn, 1) := by decide +kernel
set_option maxRecDepth 20000 in
theorem ggX0_denominatorOf_X0_divisorOfPivotAnd : GoodIn wsX0_denominatorOf wsX0_divisorOfPivotAnd := goodIn_r _ [12, 2, 3, 4, 5, 6, 16, 17, 18, 19, 20, 21, 22, 23] (by decide +kernel) (by decide +kernel)
set_option maxRecDepth 20000 in
theorem gX0_denominatorOf_X0_divisorOfPivotAnd : GoodIn wsX0_denominatorOf (wsV RX0 111 RX0 yX0_divisorOfPivotAnd wsX0_divisorOfPivotAnd) := goodIn_app (goodIn_of _ (by decide +kernel)) ggX0_denominatorOf_X0_divisorOfPivotAnd
set_option maxRecDepth 20000 in
theorem ggX0_denominatorOf_X0_quotient : GoodIn wsX0_denominatorOf wsX0_quotient := goodIn_r _ [15] (by decide +kernel) (by decide +kernel)
set_option maxRecDepth 20000 in
theorem gX0_denominatorOf_X0_quotient : GoodIn wsX0_denominatorOf (va_wsS RX0 97 yX0_quotient wsX0_quotient) := goodIn_app (goodIn_of _ (by decide +kernel)) ggX0_denominatorOf_X0_quotient
theorem dX0_denominatorOf_0 : decode cX0_denominatorOf 0 = .ok (.aload_n 0, 1) := by decide +kernel
theorem dX0_denominatorOf_1 : decode cX0_denominatorOf 1 = .ok (.getfield 16, 3) := by decide +kernel
theorem dX0_denominatorOf_4 : decode cX0_denominatorOf 4 = .ok (.iload_n 1, 1) := by decide +kernel
theorem dX0_denominatorOf_5 : decode cX0_denominatorOf 5 = .ok (.iaload, 1) := by decide +kernel
theorem dX0_denominatorOf_6 : decode cX0_denominatorOf 6 = .ok (.istore_n 2, 1) := by decide +kernel
theorem dX0_denominatorOf_7 : decode cX0_denominatorOf 7 = .ok (.iload_n 2, 1) := by decide +kernel
theorem dX0_denominatorOf_8 : decode cX0_denominatorOf 8 = .ok (.iconst (-1), 1) := by decide +kernel
theorem dX0_denominatorOf_9 : decode cX0_denominatorOf 9 = .ok (.if_icmp .ne 5, 3) := by decide +kernel
theorem dX0_denominatorOf_12 : decode cX0_denominatorOf 12 = .ok (.lconst 1, 1) := by decide +kernel
theorem dX0_denominatorOf_13 : decode cX0_denominatorOf 13 = .ok (.lreturn, 1) := by decide +kernel
theorem dX0_denominatorOf_14 : decode cX0_denominatorOf 14 = .ok (.aload_n 0, 1) := by decide +kernel
theorem dX0_denominatorOf_15 : decode cX0_denominatorOf 15 = .ok (.getfield 78, 3) := by decide +kernel
theorem dX0_denominatorOf_18 : decode cX0_denominatorOf 18 = .ok (.invokestatic 115, 3) := by decide +kernel
theorem dX0_denominatorOf_21 : decode cX0_denominatorOf 21 = .ok (.aload_n 0, 1) := by decide +kernel
theorem dX0_denominatorOf_22 : decode cX0_denominatorOf 22 = .ok (.aload_n 0, 1) := by decide +kernel
theorem dX0_denominatorOf_23 : decode cX0_denominatorOf 23 = .ok (.getfield 11, 3) := by decide +kernel
theorem dX0_denominatorOf_26 : decode cX0_denominatorOf 26 = .ok (.iload_n 2, 1) := by decide +kernel
theorem dX0_denominatorOf_27 : decode cX0_denominatorOf 27 = .ok (.aaload, 1) := by decide +kernel
theorem dX0_denominatorOf_28 : decode cX0_denominatorOf 28 = .ok (.bipush 25, 2) := by decide +kernel
theorem dX0_denominatorOf_30 : decode cX0_denominatorOf 30 = .ok (.laload, 1) := by decide +kernel
theorem dX0_denominatorOf_31 : decode cX0_denominatorOf 31 = .ok (.invokevirtual 111, 3) := by decide +kernel
theorem dX0_denominatorOf_34 : decode cX0_denominatorOf 34 = .ok (.invokestatic 97, 3) := by decide +kernel
theorem dX0_denominatorOf_37 : decode cX0_denominatorOf 37 = .ok (.lreturn, 1) := by decide +kernel
theorem dX0_divisorOfPivotAnd_0 : decode cX0_divisorOfPivotAnd 0 = .ok (.aload_n 0, 1) := by decide +kernel
theorem dX0_divisorOfPivotAnd_1 : decode cX0_divisorOfPivotAnd 1 = .ok (.getfield 78, 3) := by decide +kernel
theorem dX0_divisorOfPivotAnd_4 : decode cX0_divisorOfPivotAnd 4 = .ok (.invokestatic 115, 3) := by decide +kernel
theorem dX0_divisorOfPivotAnd_7 : decode cX0_divisorOfPivotAnd 7 = .ok (.lstore_n 3, 1) := by decide +kernel
theorem dX0_divisorOfPivotAnd_8 : decode cX0_divisorOfPivotAnd 8 = .ok (.lload_n 1, 1) := by decide +kernel
theorem dX0_divisorOfPivotAnd_9 : decode cX0_divisorOfPivotAnd 9 = .ok (.invokestatic 115, 3) := by decide +kernel
theorem dX0_divisorOfPivotAnd_12 : decode cX0_divisorOfPivotAnd 12 = .ok (.lstore 5, 2) := by decide +kernel
theorem dX0_divisorOfPivotAnd_14 : decode cX0_divisorOfPivotAnd 14 = .ok (.iconst 0, 1) := by decide +kernel
theorem dX0_divisorOfPivotAnd_15 : decode cX0_divisorOfPivotAnd 15 = .ok (.istore 7, 2) := by decide +kernel
theorem dX0_divisorOfPivotAnd_17 : decode cX0_divisorOfPivotAnd 17 = .ok (.iload 7, 2) := by decide +kernel
theorem dX0_divisorOfPivotAnd_19 : decode cX0_divisorOfPivotAnd 19 = .ok (.bipush 100, 2) := by decide +kernel
theorem dX0_divisorOfPivotAnd_21 : decode cX0_divisorOfPivotAnd 21 = .ok (.if_icmp .ge 29, 3) := by decide +kernel
theorem dX0_divisorOfPivotAnd_24 : decode cX0_divisorOfPivotAnd 24 = .ok (.lload 5, 2) := by decide +kernel
theorem dX0_divisorOfPivotAnd_26 : decode cX0_divisorOfPivotAnd 26 = .ok (.lconst 0, 1) := by decide +kernel
theorem dX0_divisorOfPivotAnd_27 : decode cX0_divisorOfPivotAnd 27 = .ok (.lcmp, 1) := by decide +kernel
theorem dX0_divisorOfPivotAnd_28 : decode cX0_divisorOfPivotAnd 28 = .ok (.ifCond .eq 22, 3) := by decide +kernel
theorem dX0_divisorOfPivotAnd_31 : decode cX0_divisorOfPivotAnd 31 = .ok (.lload_n 3, 1) := by decide +kernel
theorem dX0_divisorOfPivotAnd_32 : decode cX0_divisorOfPivotAnd 32 = .ok (.lload 5, 2) := by decide +kernel
theorem dX0_divisorOfPivotAnd_34 : decode cX0_divisorOfPivotAnd 34 = .ok (.lrem, 1) := by decide +kernel
theorem dX0_divisorOfPivotAnd_35 : decode cX0_divisorOfPivotAnd 35 = .ok (.lstore 8, 2) := by decide +kernel
theorem dX0_divisorOfPivotAnd_37 : decode cX0_divisorOfPivotAnd 37 = .ok (.lload 5, 2) := by decide +kernel
theorem dX0_divisorOfPivotAnd_39 : decode cX0_divisorOfPivotAnd 39 = .ok (.lstore_n 3, 1) := by decide +kernel
theorem dX0_divisorOfPivotAnd_40 : decode cX0_divisorOfPivotAnd 40 = .ok (.lload 8, 2) := by decide +kernel
theorem dX0_divisorOfPivotAnd_42 : decode cX0_divisorOfPivotAnd 42 = .ok (.lstore 5, 2) := by decide +kernel
theorem dX0_divisorOfPivotAnd_44 : decode cX0_divisorOfPivotAnd 44 = .ok (.iinc 7 1, 3) := by decide +kernel
theorem dX0_divisorOfPivotAnd_47 : decode cX0_divisorOfPivotAnd 47 = .ok (.goto (-30), 3) := by decide +kernel
theorem dX0_divisorOfPivotAnd_50 : decode cX0_divisorOfPivotAnd 50 = .ok (.lload_n 3, 1) := by decide +kernel
theorem dX0_divisorOfPivotAnd_51 : decode cX0_divisorOfPivotAnd 51 = .ok (.lreturn, 1) := by decide +kernel
end
section
theorem dX1_init_0 : decode cX1_init 0 = .ok (.aload_n 0, 1) := by decide +kernel
theorem dX1_init_1 : decode cX1_init 1 = .ok (.invokespecial 3, 3) := by decide +kernel
theorem dX1_init_4 : decode cX1_init 4 = .ok (.aload_n 0, 1) := by decide +kernel
theorem dX1_init_5 : decode cX1_init 5 = .ok (.bipush 25, 2) := by decide +kernel
theorem dX1_init_7 : decode cX1_init 7 = .ok (.newarray .long, 2) := by decide +kernel
theorem dX1_init_9 : decode cX1_init 9 = .ok (.putfield 9, 3) := by decide +kernel
theorem dX1_init_12 : decode cX1_init 12 = .ok (.aload_n 0, 1) := by decide +kernel
theorem dX1_init_13 : decode cX1_init 13 = .ok (.bipush 25, 2) := by decide +kernel
theorem dX1_init_15 : decode cX1_init 15 = .ok (.newarray .long, 2) := by decide +kernel
theorem dX1_init_17 : decode cX1_init 17 = .ok (.putfield 15, 3) := by decide +kernel
theorem dX1_init_20 : decode cX1_init 20 = .ok (.return_, 1) := by decide +kernel
set_option maxRecDepth 20000 in
theorem ggX1_startAnew_J7_fill_d0a16 : GoodIn wsX1_startAnew wsJ7_fill_d0a16 := goodIn_r _ [5] (by decide +kernel) (by decide +kernel)
set_option maxRecDepth 20000 in
theorem gX1_startAnew_J7_fill_d0a16 : GoodIn wsX1_startAnew (va_wsS RX1 18 yJ7_fill_d0a16 wsJ7_fill_d0a16) := goodIn_app (goodIn_of _ (by decide +kernel)) ggX1_startAnew_J7_fill_d0a16
theorem dX1_startAnew_0 : decode cX1_startAnew 0 = .ok (.aload_n 0, 1) := by decide +kernel
theorem dX1_startAnew_1 : decode cX1_startAnew 1 = .ok (.getfield 9, 3) := by decide +kernel
theorem dX1_startAnew_4 : decode cX1_startAnew 4 = .ok (.lconst 0, 1) := by decide +kernel
theorem dX1_startAnew_5 : decode cX1_startAnew 5 = .ok (.invokestatic 18, 3) := by decide +kernel
theorem dX1_startAnew_8 : decode cX1_startAnew 8 = .ok (.return_, 1) := by decide +kernel
theorem dX1_remember_0 : decode cX1_remember 0 = .ok (.aload_n 0, 1) := by decide +kernel
theorem dX1_remember_1 : decode cX1_remember 1 = .ok (.getfield 9, 3) := by decide +kernel
theorem dX1_remember_4 : decode cX1_remember 4 = .ok (.iconst 0, 1) := by decide +kernel
theorem dX1_remember_5 : decode cX1_remember 5 = .ok (.aload_n 0, 1) := by decide +kernel
theorem dX1_remember_6 : decode cX1_remember 6 = .ok (.getfield 15, 3) := by decide +kernel
theorem dX1_remember_9 : decode cX1_remember 9 = .ok (.iconst 0, 1) := by decide +kernel
theorem dX1_remember_10 : decode cX1_remember 10 = .ok (.bipush 25, 2) := by decide +kernel
theorem dX1_remember_12 : decode cX1_remember 12 = .ok (.invokestatic 24, 3) := by decide +kernel
theorem dX1_remember_15 : decode cX1_remember 15 = .ok (.return_, 1) := by decide +kernel
theorem dX1_countChanged_0 : decode cX1_countChanged 0 = .ok (.iconst 0, 1) := by decide +kernel
theorem dX1_countChanged_1 : decode cX1_countChanged 1 = .ok (.istore_n 1, 1) := by decide +kernel
theorem dX1_countChanged_2 : decode cX1_countChanged 2 = .ok (.iconst 0, 1) := by decide +kernel
theorem dX1_countChanged_3 : decode cX1_countChanged 3 = .ok (.istore_n 2, 1) := by decide +kernel
theorem dX1_countChanged_4 : decode cX1_countChanged 4 = .ok (.iload_n 2, 1) := by decide +kernel
theorem dX1_countChanged_5 : decode cX1_countChanged 5 = .ok (.bipush 25, 2) := by decide +kernel
theorem dX1_countChanged_7 : decode cX1_countChanged 7 = .ok (.if_icmp .ge 28, 3) := by decide +kernel
theorem dX1_countChanged_10 : decode cX1_countChanged 10 = .ok (.aload_n 0, 1) := by decide +kernel
theorem dX1_countChanged_11 : decode cX1_countChanged 11 = .ok (.getfield 9, 3) := by decide +kernel
theorem dX1_countChanged_14 : decode cX1_countChanged 14 = .ok (.iload_n 2, 1) := by decide +kernel
theorem dX1_countChanged_15 : decode cX1_countChanged 15 = .ok (.laload, 1) := by decide +kernel
theorem dX1_countChanged_16 : decode cX1_countChanged 16 = .ok (.aload_n 0, 1) := by decide +kernel
theorem dX1_countChanged_17 : decode cX1_countChanged 17 = .ok (.getfield 15, 3) := by decide +kernel
theorem dX1_countChanged_20 : decode cX1_countChanged 20 = .ok (.iload_n 2, 1) := by decide +kernel
theorem dX1_countChanged_21 : decode cX1_countChanged 21 = .ok (.laload, 1) := by decide +kernel
theorem dX1_countChanged_22 : decode cX1_countChanged 22 = .ok (.lcmp, 1) := by decide +kernel
theorem dX1_countChanged_23 : decode cX1_countChanged 23 = .ok (.ifCond .eq 6, 3) := by decide +kernel
theorem dX1_countChanged_26 : decode cX1_countChanged 26 = .ok (.iinc 1 1, 3) := by decide +kernel
theorem dX1_countChanged_29 : decode cX1_countChanged 29 = .ok (.iinc 2 1, 3) := by decide +kernel
theorem dX1_countChanged_32 : decode cX1_countChanged 32 = .ok (.goto (-28), 3) := by decide +kernel
theorem dX1_countChanged_35 : decode cX1_countChanged 35 = .ok (.iload_n 1, 1) := by decide +kernel
theorem dX1_countChanged_36 : decode cX1_countChanged 36 = .ok (.ireturn, 1) := by decide +kernel
set_option maxRecDepth 20000 in
theorem ggX1_takeGravity_X2_sumOfOutTotals : GoodIn wsX1_takeGravity wsX2_sumOfOutTotals := goodIn_r _ [8, 9, 23, 24, 25, 26] (by decide +kernel) (by decide +kernel)
set_option maxRecDepth 20000 in
theorem gX1_takeGravity_X2_sumOfOutTotals : GoodIn wsX1_takeGravity (wsV RX1 30 RX2 yX2_sumOfOutTotals wsX2_sumOfOutTotals) := goodIn_app (goodIn_of _ (by decide +kernel)) ggX1_takeGravity_X2_sumOfOutTotals
set_option maxRecDepth 20000 in
theorem ggX1_takeGravity_X3_hasRoute : GoodIn wsX1_takeGravity wsX3_hasRoute := goodIn_r _ [14, 15, 27, 28, 29, 30, 31, 32, 33, 34] (by decide +kernel) (by decide +kernel)
set_option maxRecDepth 20000 in
theorem gX1_takeGravity_X3_hasRoute : GoodIn wsX1_takeGravity (wsV RX1 36 RX3 yX3_hasRoute wsX3_hasRoute) := goodIn_app (goodIn_of _ (by decide +kernel)) ggX1_takeGravity_X3_hasRoute
set_option maxRecDepth 20000 in
theorem ggX1_takeGravity_X1_scaled : GoodIn wsX1_takeGravity wsX1_scaled := goodIn_r _ [19, 20] (by decide +kernel) (by decide +kernel)
set_option maxRecDepth 20000 in
theorem gX1_takeGravity_X1_scaled : GoodIn wsX1_takeGravity (va_wsS RX1 49 yX1_scaled wsX1_scaled) := goodIn_app (goodIn_of _ (by decide +kernel)) ggX1_takeGravity_X1_scaled
theorem dX1_takeGravity_0 : decode cX1_takeGravity 0 = .ok (.aload_n 2, 1) := by decide +kernel
theorem dX1_takeGravity_1 : decode cX1_takeGravity 1 = .ok (.invokevirtual 30, 3) := by decide +kernel
theorem dX1_takeGravity_4 : decode cX1_takeGravity 4 = .ok (.i2l, 1) := by decide +kernel
theorem dX1_takeGravity_5 : decode cX1_takeGravity 5 = .ok (.lstore_n 3, 1) := by decide +kernel
theorem dX1_takeGravity_6 : decode cX1_takeGravity 6 = .ok (.iconst 0, 1) := by decide +kernel
theorem dX1_takeGravity_7 : decode cX1_takeGravity 7 = .ok (.istore 5, 2) := by decide +kernel
theorem dX1_takeGravity_9 : decode cX1_takeGravity 9 = .ok (.iconst 0, 1) := by decide +kernel
theorem dX1_takeGravity_10 : decode cX1_takeGravity 10 = .ok (.istore 6, 2) := by decide +kernel
theorem dX1_takeGravity_12 : decode cX1_takeGravity 12 = .ok (.iload 6, 2) := by decide +kernel
theorem dX1_takeGravity_14 : decode cX1_takeGravity 14 = .ok (.bipush 25, 2) := by decide +kernel
theorem dX1_takeGravity_16 : decode cX1_takeGravity 16 = .ok (.if_icmp .ge 76, 3) := by decide +kernel
theorem dX1_takeGravity_19 : decode cX1_takeGravity 19 = .ok (.aload_n 0, 1) := by decide +kernel
theorem dX1_takeGravity_20 : decode cX1_takeGravity 20 = .ok (.getfield 9, 3) := by decide +kernel
theorem dX1_takeGravity_23 : decode cX1_takeGravity 23 = .ok (.iload 6, 2) := by decide +kernel
theorem dX1_takeGravity_25 : decode cX1_takeGravity 25 = .ok (.lconst 0, 1) := by decide +kernel
theorem dX1_takeGravity_26 : decode cX1_takeGravity 26 = .ok (.lastore, 1) := by decide +kernel
theorem dX1_takeGravity_27 : decode cX1_takeGravity 27 = .ok (.aload_n 1, 1) := by decide +kernel
theorem dX1_takeGravity_28 : decode cX1_takeGravity 28 = .ok (.iload 6, 2) := by decide +kernel
theorem dX1_takeGravity_30 : decode cX1_takeGravity 30 = .ok (.invokevirtual 36, 3) := by decide +kernel
theorem dX1_takeGravity_33 : decode cX1_takeGravity 33 = .ok (.ifCond .eq 38, 3) := by decide +kernel
theorem dX1_takeGravity_36 : decode cX1_takeGravity 36 = .ok (.aload_n 2, 1) := by decide +kernel
theorem dX1_takeGravity_37 : decode cX1_takeGravity 37 = .ok (.getfield 42, 3) := by decide +kernel
theorem dX1_takeGravity_40 : decode cX1_takeGravity 40 = .ok (.iload 6, 2) := by decide +kernel
theorem dX1_takeGravity_42 : decode cX1_takeGravity 42 = .ok (.iconst 5, 1) := by decide +kernel
theorem dX1_takeGravity_43 : decode cX1_takeGravity 43 = .ok (.idiv, 1) := by decide +kernel
theorem dX1_takeGravity_44 : decode cX1_takeGravity 44 = .ok (.iaload, 1) := by decide +kernel
theorem dX1_takeGravity_45 : decode cX1_takeGravity 45 = .ok (.i2l, 1) := by decide +kernel
theorem dX1_takeGravity_46 : decode cX1_takeGravity 46 = .ok (.lstore 7, 2) := by decide +kernel
theorem dX1_takeGravity_48 : decode cX1_takeGravity 48 = .ok (.aload_n 0, 1) := by decide +kernel
theorem dX1_takeGravity_49 : decode cX1_takeGravity 49 = .ok (.getfield 9, 3) := by decide +kernel
theorem dX1_takeGravity_52 : decode cX1_takeGravity 52 = .ok (.iload 6, 2) := by decide +kernel
theorem dX1_takeGravity_54 : decode cX1_takeGravity 54 = .ok (.lload 7, 2) := by decide +kernel
theorem dX1_takeGravity_56 : decode cX1_takeGravity 56 = .ok (.aload_n 2, 1) := by decide +kernel
theorem dX1_takeGravity_57 : decode cX1_takeGravity 57 = .ok (.getfield 46, 3) := by decide +kernel
theorem dX1_takeGravity_60 : decode cX1_takeGravity 60 = .ok (.iload 6, 2) := by decide +kernel
theorem dX1_takeGravity_62 : decode cX1_takeGravity 62 = .ok (.iconst 5, 1) := by decide +kernel
theorem dX1_takeGravity_63 : decode cX1_takeGravity 63 = .ok (.irem, 1) := by decide +kernel
theorem dX1_takeGravity_64 : decode cX1_takeGravity 64 = .ok (.iaload, 1) := by decide +kernel
theorem dX1_takeGravity_65 : decode cX1_takeGravity 65 = .ok (.i2l, 1) := by decide +kernel
theorem dX1_takeGravity_66 : decode cX1_takeGravity 66 = .ok (.lload_n 3, 1) := by decide +kernel
theorem dX1_takeGravity_67 : decode cX1_takeGravity 67 = .ok (.invokestatic 49, 3) := by decide +kernel
theorem dX1_takeGravity_70 : decode cX1_takeGravity 70 = .ok (.lastore, 1) := by decide +kernel
theorem dX1_takeGravity_71 : decode cX1_takeGravity 71 = .ok (.aload_n 0, 1) := by decide +kernel
theorem dX1_takeGravity_72 : decode cX1_takeGravity 72 = .ok (.getfield 9, 3) := by decide +kernel
theorem dX1_takeGravity_75 : decode cX1_takeGravity 75 = .ok (.iload 6, 2) := by decide +kernel
theorem dX1_takeGravity_77 : decode cX1_takeGravity 77 = .ok (.laload, 1) := by decide +kernel
theorem dX1_takeGravity_78 : decode cX1_takeGravity 78 = .ok (.lconst 0, 1) := by decide +kernel
theorem dX1_takeGravity_79 : decode cX1_takeGravity 79 = .ok (.lcmp, 1) := by decide +kernel
theorem dX1_takeGravity_80 : decode cX1_takeGravity 80 = .ok (.ifCond .le 6, 3) := by decide +kernel
theorem dX1_takeGravity_83 : decode cX1_takeGravity 83 = .ok (.iinc 5 1, 3) := by decide +kernel
theorem dX1_takeGravity_86 : decode cX1_takeGravity 86 = .ok (.iinc 6 1, 3) := by decide +kernel
theorem dX1_takeGravity_89 : decode cX1_takeGravity 89 = .ok (.goto (-77), 3) := by decide +kernel
theorem dX1_takeGravity_92 : decode cX1_takeGravity 92 = .ok (.iload 5, 2) := by decide +kernel
theorem dX1_takeGravity_94 : decode cX1_takeGravity 94 = .ok (.ireturn, 1) := by decide +kernel
set_option maxRecDepth 20000 in
theorem ggX1_fitOnceToTotals_X4_slotOf : GoodIn wsX1_fitOnceToTotals wsX4_slotOf := goodIn_r _ [5] (by decide +kernel) (by decide +kernel)
set_option maxRecDepth 20000 in
theorem gX1_fitOnceToTotals_X4_slotOf_n53 : GoodIn wsX1_fitOnceToTotals (wsX4_slotOf) := ggX1_fitOnceToTotals_X4_slotOf
set_option maxRecDepth 20000 in
theorem ggX1_fitOnceToTotals_X1_fitLine : GoodIn wsX1_fitOnceToTotals wsX1_fitLine := goodIn_r _ [10, 11, 12, 13, 9, 14, 15, 20, 21] (by decide +kernel) (by decide +kernel)
set_option maxRecDepth 20000 in
theorem gX1_fitOnceToTotals_X1_fitLine : GoodIn wsX1_fitOnceToTotals (wsV RX1 57 RX1 yX1_fitLine wsX1_fitLine) := goodIn_app (goodIn_of _ (by decide +kernel)) ggX1_fitOnceToTotals_X1_fitLine
theorem dX1_fitOnceToTotals_0 : decode cX1_fitOnceToTotals 0 = .ok (.iconst 0, 1) := by decide +kernel
theorem dX1_fitOnceToTotals_1 : decode cX1_fitOnceToTotals 1 = .ok (.istore_n 2, 1) := by decide +kernel
theorem dX1_fitOnceToTotals_2 : decode cX1_fitOnceToTotals 2 = .ok (.iload_n 2, 1) := by decide +kernel
theorem dX1_fitOnceToTotals_3 : decode cX1_fitOnceToTotals 3 = .ok (.iconst 5, 1) := by decide +kernel
theorem dX1_fitOnceToTotals_4 : decode cX1_fitOnceToTotals 4 = .ok (.if_icmp .ge 25, 3) := by decide +kernel
theorem dX1_fitOnceToTotals_7 : decode cX1_fitOnceToTotals 7 = .ok (.aload_n 0, 1) := by decide +kernel
theorem dX1_fitOnceToTotals_8 : decode cX1_fitOnceToTotals 8 = .ok (.iload_n 2, 1) := by decide +kernel
theorem dX1_fitOnceToTotals_9 : decode cX1_fitOnceToTotals 9 = .ok (.iconst 0, 1) := by decide +kernel
theorem dX1_fitOnceToTotals_10 : decode cX1_fitOnceToTotals 10 = .ok (.invokestatic 53, 3) := by decide +kernel
theorem dX1_fitOnceToTotals_13 : decode cX1_fitOnceToTotals 13 = .ok (.iconst 1, 1) := by decide +kernel
theorem dX1_fitOnceToTotals_14 : decode cX1_fitOnceToTotals 14 = .ok (.aload_n 1, 1) := by decide +kernel
theorem dX1_fitOnceToTotals_15 : decode cX1_fitOnceToTotals 15 = .ok (.getfield 42, 3) := by decide +kernel
theorem dX1_fitOnceToTotals_18 : decode cX1_fitOnceToTotals 18 = .ok (.iload_n 2, 1) := by decide +kernel
theorem dX1_fitOnceToTotals_19 : decode cX1_fitOnceToTotals 19 = .ok (.iaload, 1) := by decide +kernel
theorem dX1_fitOnceToTotals_20 : decode cX1_fitOnceToTotals 20 = .ok (.invokevirtual 57, 3) := by decide +kernel
theorem dX1_fitOnceToTotals_23 : decode cX1_fitOnceToTotals 23 = .ok (.iinc 2 1, 3) := by decide +kernel
theorem dX1_fitOnceToTotals_26 : decode cX1_fitOnceToTotals 26 = .ok (.goto (-24), 3) := by decide +kernel
theorem dX1_fitOnceToTotals_29 : decode cX1_fitOnceToTotals 29 = .ok (.iconst 0, 1) := by decide +kernel
theorem dX1_fitOnceToTotals_30 : decode cX1_fitOnceToTotals 30 = .ok (.istore_n 2, 1) := by decide +kernel
theorem dX1_fitOnceToTotals_31 : decode cX1_fitOnceToTotals 31 = .ok (.iload_n 2, 1) := by decide +kernel
theorem dX1_fitOnceToTotals_32 : decode cX1_fitOnceToTotals 32 = .ok (.iconst 5, 1) := by decide +kernel
theorem dX1_fitOnceToTotals_33 : decode cX1_fitOnceToTotals 33 = .ok (.if_icmp .ge 25, 3) := by decide +kernel
theorem dX1_fitOnceToTotals_36 : decode cX1_fitOnceToTotals 36 = .ok (.aload_n 0, 1) := by decide +kernel
theorem dX1_fitOnceToTotals_37 : decode cX1_fitOnceToTotals 37 = .ok (.iconst 0, 1) := by decide +kernel
theorem dX1_fitOnceToTotals_38 : decode cX1_fitOnceToTotals 38 = .ok (.iload_n 2, 1) := by decide +kernel
theorem dX1_fitOnceToTotals_39 : decode cX1_fitOnceToTotals 39 = .ok (.invokestatic 53, 3) := by decide +kernel
theorem dX1_fitOnceToTotals_42 : decode cX1_fitOnceToTotals 42 = .ok (.iconst 5, 1) := by decide +kernel
theorem dX1_fitOnceToTotals_43 : decode cX1_fitOnceToTotals 43 = .ok (.aload_n 1, 1) := by decide +kernel
theorem dX1_fitOnceToTotals_44 : decode cX1_fitOnceToTotals 44 = .ok (.getfield 46, 3) := by decide +kernel
theorem dX1_fitOnceToTotals_47 : decode cX1_fitOnceToTotals 47 = .ok (.iload_n 2, 1) := by decide +kernel
theorem dX1_fitOnceToTotals_48 : decode cX1_fitOnceToTotals 48 = .ok (.iaload, 1) := by decide +kernel
theorem dX1_fitOnceToTotals_49 : decode cX1_fitOnceToTotals 49 = .ok (.invokevirtual 57, 3) := by decide +kernel
theorem dX1_fitOnceToTotals_52 : decode cX1_fitOnceToTotals 52 = .ok (.iinc 2 1, 3) := by decide +kernel
theorem dX1_fitOnceToTotals_55 : decode cX1_fitOnceToTotals 55 = .ok (.goto (-24), 3) := by decide +kernel
theorem dX1_fitOnceToTotals_58 : decode cX1_fitOnceToTotals 58 = .ok (.return_, 1) := by decide +kernel
set_option maxRecDepth 20000 in
theorem ggX1_fitLine_X1_scaled : GoodIn wsX1_fitLine wsX1_scaled := goodIn_r _ [5, 6] (by decide +kernel) (by decide +kernel)
set_option maxRecDepth 20000 in
theorem gX1_fitLine_X1_scaled : GoodIn wsX1_fitLine (va_wsS RX1 49 yX1_scaled wsX1_scaled) := goodIn_app (goodIn_of _ (by decide +kernel)) ggX1_fitLine_X1_scaled
theorem dX1_fitLine_0 : decode cX1_fitLine 0 = .ok (.lconst 0, 1) := by decide +kernel
theorem dX1_fitLine_1 : decode cX1_fitLine 1 = .ok (.lstore 4, 2) := by decide +kernel
theorem dX1_fitLine_3 : decode cX1_fitLine 3 = .ok (.iconst 0, 1) := by decide +kernel
theorem dX1_fitLine_4 : decode cX1_fitLine 4 = .ok (.istore 6, 2) := by decide +kernel
theorem dX1_fitLine_6 : decode cX1_fitLine 6 = .ok (.iload 6, 2) := by decide +kernel
theorem dX1_fitLine_8 : decode cX1_fitLine 8 = .ok (.iconst 5, 1) := by decide +kernel
theorem dX1_fitLine_9 : decode cX1_fitLine 9 = .ok (.if_icmp .ge 25, 3) := by decide +kernel
theorem dX1_fitLine_12 : decode cX1_fitLine 12 = .ok (.lload 4, 2) := by decide +kernel
theorem dX1_fitLine_14 : decode cX1_fitLine 14 = .ok (.aload_n 0, 1) := by decide +kernel
theorem dX1_fitLine_15 : decode cX1_fitLine 15 = .ok (.getfield 9, 3) := by decide +kernel
theorem dX1_fitLine_18 : decode cX1_fitLine 18 = .ok (.iload_n 1, 1) := by decide +kernel
theorem dX1_fitLine_19 : decode cX1_fitLine 19 = .ok (.iload 6, 2) := by decide +kernel
theorem dX1_fitLine_21 : decode cX1_fitLine 21 = .ok (.iload_n 2, 1) := by decide +kernel
theorem dX1_fitLine_22 : decode cX1_fitLine 22 = .ok (.imul, 1) := by decide +kernel
theorem dX1_fitLine_23 : decode cX1_fitLine 23 = .ok (.iadd, 1) := by decide +kernel
theorem dX1_fitLine_24 : decode cX1_fitLine 24 = .ok (.laload, 1) := by decide +kernel
theorem dX1_fitLine_25 : decode cX1_fitLine 25 = .ok (.ladd, 1) := by decide +kernel
theorem dX1_fitLine_26 : decode cX1_fitLine 26 = .ok (.lstore 4, 2) := by decide +kernel
theorem dX1_fitLine_28 : decode cX1_fitLine 28 = .ok (.iinc 6 1, 3) := by decide +kernel
theorem dX1_fitLine_31 : decode cX1_fitLine 31 = .ok (.goto (-25), 3) := by decide +kernel
theorem dX1_fitLine_34 : decode cX1_fitLine 34 = .ok (.lload 4, 2) := by decide +kernel
theorem dX1_fitLine_36 : decode cX1_fitLine 36 = .ok (.lconst 0, 1) := by decide +kernel
theorem dX1_fitLine_37 : decode cX1_fitLine 37 = .ok (.lcmp, 1) := by decide +kernel
theorem dX1_fitLine_38 : decode cX1_fitLine 38 = .ok (.ifCond .le 47, 3) := by decide +kernel
theorem dX1_fitLine_41 : decode cX1_fitLine 41 = .ok (.iconst 0, 1) := by decide +kernel
theorem dX1_fitLine_42 : decode cX1_fitLine 42 = .ok (.istore 6, 2) := by decide +kernel
theorem dX1_fitLine_44 : decode cX1_fitLine 44 = .ok (.iload 6, 2) := by decide +kernel
theorem dX1_fitLine_46 : decode cX1_fitLine 46 = .ok (.iconst 5, 1) := by decide +kernel
theorem dX1_fitLine_47 : decode cX1_fitLine 47 = .ok (.if_icmp .ge 38, 3) := by decide +kernel
theorem dX1_fitLine_50 : decode cX1_fitLine 50 = .ok (.iload_n 1, 1) := by decide +kernel
theorem dX1_fitLine_51 : decode cX1_fitLine 51 = .ok (.iload 6, 2) := by decide +kernel
theorem dX1_fitLine_53 : decode cX1_fitLine 53 = .ok (.iload_n 2, 1) := by decide +kernel
theorem dX1_fitLine_54 : decode cX1_fitLine 54 = .ok (.imul, 1) := by decide +kernel
theorem dX1_fitLine_55 : decode cX1_fitLine 55 = .ok (.iadd, 1) := by decide +kernel
theorem dX1_fitLine_56 : decode cX1_fitLine 56 = .ok (.istore 7, 2) := by decide +kernel
theorem dX1_fitLine_58 : decode cX1_fitLine 58 = .ok (.aload_n 0, 1) := by decide +kernel
theorem dX1_fitLine_59 : decode cX1_fitLine 59 = .ok (.getfield 9, 3) := by decide +kernel
theorem dX1_fitLine_62 : decode cX1_fitLine 62 = .ok (.iload 7, 2) := by decide +kernel
theorem dX1_fitLine_64 : decode cX1_fitLine 64 = .ok (.aload_n 0, 1) := by decide +kernel
theorem dX1_fitLine_65 : decode cX1_fitLine 65 = .ok (.getfield 9, 3) := by decide +kernel
theorem dX1_fitLine_68 : decode cX1_fitLine 68 = .ok (.iload 7, 2) := by decide +kernel
theorem dX1_fitLine_70 : decode cX1_fitLine 70 = .ok (.laload, 1) := by decide +kernel
theorem dX1_fitLine_71 : decode cX1_fitLine 71 = .ok (.iload_n 3, 1) := by decide +kernel
theorem dX1_fitLine_72 : decode cX1_fitLine 72 = .ok (.i2l, 1) := by decide +kernel
theorem dX1_fitLine_73 : decode cX1_fitLine 73 = .ok (.lload 4, 2) := by decide +kernel
theorem dX1_fitLine_75 : decode cX1_fitLine 75 = .ok (.invokestatic 49, 3) := by decide +kernel
theorem dX1_fitLine_78 : decode cX1_fitLine 78 = .ok (.lastore, 1) := by decide +kernel
theorem dX1_fitLine_79 : decode cX1_fitLine 79 = .ok (.iinc 6 1, 3) := by decide +kernel
theorem dX1_fitLine_82 : decode cX1_fitLine 82 = .ok (.goto (-38), 3) := by decide +kernel
theorem dX1_fitLine_85 : decode cX1_fitLine 85 = .ok (.return_, 1) := by decide +kernel
set_option maxRecDepth 20000 in
theorem ggX1_fitOnceToLinks_X1_fitLink : GoodIn wsX1_fitOnceToLinks wsX1_fitLink := goodIn_r _ [7, 8, 9, 10, 11, 6, 12, 13, 14, 15, 16, 17, 18, 19, 20, 21, 22, 23, 36, 37, 24, 25, 26, 27, 28, 29, 30, 31] (by decide +kernel) (by decide +kernel)
set_option maxRecDepth 20000 in
theorem gX1_fitOnceToLinks_X1_fitLink : GoodIn wsX1_fitOnceToLinks (wsV RX1 68 RX1 yX1_fitLink wsX1_fitLink) := goodIn_app (goodIn_of _ (by decide +kernel)) ggX1_fitOnceToLinks_X1_fitLink
theorem dX1_fitOnceToLinks_0 : decode cX1_fitOnceToLinks 0 = .ok (.iconst 0, 1) := by decide +kernel
theorem dX1_fitOnceToLinks_1 : decode cX1_fitOnceToLinks 1 = .ok (.istore_n 3, 1) := by decide +kernel
theorem dX1_fitOnceToLinks_2 : decode cX1_fitOnceToLinks 2 = .ok (.iload_n 3, 1) := by decide +kernel
theorem dX1_fitOnceToLinks_3 : decode cX1_fitOnceToLinks 3 = .ok (.aload_n 1, 1) := by decide +kernel
theorem dX1_fitOnceToLinks_4 : decode cX1_fitOnceToLinks 4 = .ok (.getfield 61, 3) := by decide +kernel
theorem dX1_fitOnceToLinks_7 : decode cX1_fitOnceToLinks 7 = .ok (.if_icmp .ge 21, 3) := by decide +kernel
theorem dX1_fitOnceToLinks_10 : decode cX1_fitOnceToLinks 10 = .ok (.aload_n 0, 1) := by decide +kernel
theorem dX1_fitOnceToLinks_11 : decode cX1_fitOnceToLinks 11 = .ok (.aload_n 1, 1) := by decide +kernel
theorem dX1_fitOnceToLinks_12 : decode cX1_fitOnceToLinks 12 = .ok (.iload_n 3, 1) := by decide +kernel
theorem dX1_fitOnceToLinks_13 : decode cX1_fitOnceToLinks 13 = .ok (.aload_n 2, 1) := by decide +kernel
theorem dX1_fitOnceToLinks_14 : decode cX1_fitOnceToLinks 14 = .ok (.getfield 65, 3) := by decide +kernel
theorem dX1_fitOnceToLinks_17 : decode cX1_fitOnceToLinks 17 = .ok (.iload_n 3, 1) := by decide +kernel
theorem dX1_fitOnceToLinks_18 : decode cX1_fitOnceToLinks 18 = .ok (.iaload, 1) := by decide +kernel
theorem dX1_fitOnceToLinks_19 : decode cX1_fitOnceToLinks 19 = .ok (.invokevirtual 68, 3) := by decide +kernel
theorem dX1_fitOnceToLinks_22 : decode cX1_fitOnceToLinks 22 = .ok (.iinc 3 1, 3) := by decide +kernel
theorem dX1_fitOnceToLinks_25 : decode cX1_fitOnceToLinks 25 = .ok (.goto (-23), 3) := by decide +kernel
theorem dX1_fitOnceToLinks_28 : decode cX1_fitOnceToLinks 28 = .ok (.return_, 1) := by decide +kernel
set_option maxRecDepth 20000 in
theorem ggX1_fitLink_X1_sumOnLink : GoodIn wsX1_fitLink wsX1_sumOnLink := goodIn_r _ [6, 1, 7, 8, 9, 10, 11, 12, 13, 18, 19, 20, 21, 22, 23, 24, 25, 26, 27] (by decide +kernel) (by decide +kernel)
set_option maxRecDepth 20000 in
theorem gX1_fitLink_X1_sumOnLink : GoodIn wsX1_fitLink (wsV RX1 72 RX1 yX1_sumOnLink wsX1_sumOnLink) := goodIn_app (goodIn_of _ (by decide +kernel)) ggX1_fitLink_X1_sumOnLink
set_option maxRecDepth 20000 in
theorem ggX1_fitLink_X3_routeUses : GoodIn wsX1_fitLink wsX3_routeUses := goodIn_r _ [11, 12, 13, 20, 21, 22, 23, 24, 25, 26, 27] (by decide +kernel) (by decide +kernel)
set_option maxRecDepth 20000 in
theorem gX1_fitLink_X3_routeUses : GoodIn wsX1_fitLink (wsV RX1 76 RX3 yX3_routeUses wsX3_routeUses) := goodIn_app (goodIn_of _ (by decide +kernel)) ggX1_fitLink_X3_routeUses
set_option maxRecDepth 20000 in
theorem ggX1_fitLink_X1_scaled : GoodIn wsX1_fitLink wsX1_scaled := goodIn_r _ [16, 17] (by decide +kernel) (by decide +kernel)
set_option maxRecDepth 20000 in
theorem gX1_fitLink_X1_scaled : GoodIn wsX1_fitLink (va_wsS RX1 49 yX1_scaled wsX1_scaled) := goodIn_app (goodIn_of _ (by decide +kernel)) ggX1_fitLink_X1_scaled
theorem dX1_fitLink_0 : decode cX1_fitLink 0 = .ok (.aload_n 0, 1) := by decide +kernel
theorem dX1_fitLink_1 : decode cX1_fitLink 1 = .ok (.aload_n 1, 1) := by decide +kernel
theorem dX1_fitLink_2 : decode cX1_fitLink 2 = .ok (.iload_n 2, 1) := by decide +kernel
theorem dX1_fitLink_3 : decode cX1_fitLink 3 = .ok (.invokevirtual 72, 3) := by decide +kernel
theorem dX1_fitLink_6 : decode cX1_fitLink 6 = .ok (.lstore 4, 2) := by decide +kernel
theorem dX1_fitLink_8 : decode cX1_fitLink 8 = .ok (.lload 4, 2) := by decide +kernel
theorem dX1_fitLink_10 : decode cX1_fitLink 10 = .ok (.lconst 0, 1) := by decide +kernel
theorem dX1_fitLink_11 : decode cX1_fitLink 11 = .ok (.lcmp, 1) := by decide +kernel
theorem dX1_fitLink_12 : decode cX1_fitLink 12 = .ok (.ifCond .le 50, 3) := by decide +kernel
theorem dX1_fitLink_15 : decode cX1_fitLink 15 = .ok (.iconst 0, 1) := by decide +kernel
theorem dX1_fitLink_16 : decode cX1_fitLink 16 = .ok (.istore 6, 2) := by decide +kernel
theorem dX1_fitLink_18 : decode cX1_fitLink 18 = .ok (.iload 6, 2) := by decide +kernel
theorem dX1_fitLink_20 : decode cX1_fitLink 20 = .ok (.bipush 25, 2) := by decide +kernel
theorem dX1_fitLink_22 : decode cX1_fitLink 22 = .ok (.if_icmp .ge 40, 3) := by decide +kernel
theorem dX1_fitLink_25 : decode cX1_fitLink 25 = .ok (.aload_n 1, 1) := by decide +kernel
theorem dX1_fitLink_26 : decode cX1_fitLink 26 = .ok (.iload 6, 2) := by decide +kernel
theorem dX1_fitLink_28 : decode cX1_fitLink 28 = .ok (.iload_n 2, 1) := by decide +kernel
theorem dX1_fitLink_29 : decode cX1_fitLink 29 = .ok (.invokevirtual 76, 3) := by decide +kernel
theorem dX1_fitLink_32 : decode cX1_fitLink 32 = .ok (.ifCond .eq 24, 3) := by decide +kernel
theorem dX1_fitLink_35 : decode cX1_fitLink 35 = .ok (.aload_n 0, 1) := by decide +kernel
theorem dX1_fitLink_36 : decode cX1_fitLink 36 = .ok (.getfield 9, 3) := by decide +kernel
theorem dX1_fitLink_39 : decode cX1_fitLink 39 = .ok (.iload 6, 2) := by decide +kernel
theorem dX1_fitLink_41 : decode cX1_fitLink 41 = .ok (.aload_n 0, 1) := by decide +kernel
theorem dX1_fitLink_42 : decode cX1_fitLink 42 = .ok (.getfield 9, 3) := by decide +kernel
theorem dX1_fitLink_45 : decode cX1_fitLink 45 = .ok (.iload 6, 2) := by decide +kernel
theorem dX1_fitLink_47 : decode cX1_fitLink 47 = .ok (.laload, 1) := by decide +kernel
theorem dX1_fitLink_48 : decode cX1_fitLink 48 = .ok (.iload_n 3, 1) := by decide +kernel
theorem dX1_fitLink_49 : decode cX1_fitLink 49 = .ok (.i2l, 1) := by decide +kernel
theorem dX1_fitLink_50 : decode cX1_fitLink 50 = .ok (.lload 4, 2) := by decide +kernel
theorem dX1_fitLink_52 : decode cX1_fitLink 52 = .ok (.invokestatic 49, 3) := by decide +kernel
theorem dX1_fitLink_55 : decode cX1_fitLink 55 = .ok (.lastore, 1) := by decide +kernel
theorem dX1_fitLink_56 : decode cX1_fitLink 56 = .ok (.iinc 6 1, 3) := by decide +kernel
theorem dX1_fitLink_59 : decode cX1_fitLink 59 = .ok (.goto (-41), 3) := by decide +kernel
theorem dX1_fitLink_62 : decode cX1_fitLink 62 = .ok (.return_, 1) := by decide +kernel
set_option maxRecDepth 20000 in
theorem ggX1_sumOnLink_X3_routeUses : GoodIn wsX1_sumOnLink wsX3_routeUses := goodIn_r _ [6, 7, 8, 11, 12, 13, 14, 15, 16, 17, 18] (by decide +kernel) (by decide +kernel)
set_option maxRecDepth 20000 in
theorem gX1_sumOnLink_X3_routeUses : GoodIn wsX1_sumOnLink (wsV RX1 76 RX3 yX3_routeUses wsX3_routeUses) := goodIn_app (goodIn_of _ (by decide +kernel)) ggX1_sumOnLink_X3_routeUses
theorem dX1_sumOnLink_0 : decode cX1_sumOnLink 0 = .ok (.lconst 0, 1) := by decide +kernel
theorem dX1_sumOnLink_1 : decode cX1_sumOnLink 1 = .ok (.lstore_n 3, 1) := by decide +kernel
theorem dX1_sumOnLink_2 : decode cX1_sumOnLink 2 = .ok (.iconst 0, 1) := by decide +kernel
theorem dX1_sumOnLink_3 : decode cX1_sumOnLink 3 = .ok (.istore 5, 2) := by decide +kernel
theorem dX1_sumOnLink_5 : decode cX1_sumOnLink 5 = .ok (.iload 5, 2) := by decide +kernel
theorem dX1_sumOnLink_7 : decode cX1_sumOnLink 7 = .ok (.bipush 25, 2) := by decide +kernel
theorem dX1_sumOnLink_9 : decode cX1_sumOnLink 9 = .ok (.if_icmp .ge 29, 3) := by decide +kernel
theorem dX1_sumOnLink_12 : decode cX1_sumOnLink 12 = .ok (.aload_n 1, 1) := by decide +kernel
theorem dX1_sumOnLink_13 : decode cX1_sumOnLink 13 = .ok (.iload 5, 2) := by decide +kernel
theorem dX1_sumOnLink_15 : decode cX1_sumOnLink 15 = .ok (.iload_n 2, 1) := by decide +kernel
theorem dX1_sumOnLink_16 : decode cX1_sumOnLink 16 = .ok (.invokevirtual 76, 3) := by decide +kernel
theorem dX1_sumOnLink_19 : decode cX1_sumOnLink 19 = .ok (.ifCond .eq 13, 3) := by decide +kernel
theorem dX1_sumOnLink_22 : decode cX1_sumOnLink 22 = .ok (.lload_n 3, 1) := by decide +kernel
theorem dX1_sumOnLink_23 : decode cX1_sumOnLink 23 = .ok (.aload_n 0, 1) := by decide +kernel
theorem dX1_sumOnLink_24 : decode cX1_sumOnLink 24 = .ok (.getfield 9, 3) := by decide +kernel
theorem dX1_sumOnLink_27 : decode cX1_sumOnLink 27 = .ok (.iload 5, 2) := by decide +kernel
theorem dX1_sumOnLink_29 : decode cX1_sumOnLink 29 = .ok (.laload, 1) := by decide +kernel
theorem dX1_sumOnLink_30 : decode cX1_sumOnLink 30 = .ok (.ladd, 1) := by decide +kernel
theorem dX1_sumOnLink_31 : decode cX1_sumOnLink 31 = .ok (.lstore_n 3, 1) := by decide +kernel
theorem dX1_sumOnLink_32 : decode cX1_sumOnLink 32 = .ok (.iinc 5 1, 3) := by decide +kernel
theorem dX1_sumOnLink_35 : decode cX1_sumOnLink 35 = .ok (.goto (-30), 3) := by decide +kernel
theorem dX1_sumOnLink_38 : decode cX1_sumOnLink 38 = .ok (.lload_n 3, 1) := by decide +kernel
theorem dX1_sumOnLink_39 : decode cX1_sumOnLink 39 = .ok (.lreturn, 1) := by decide +kernel
theorem dX1_scaled_0 : decode cX1_scaled 0 = .ok (.lload 4, 2) := by decide +kernel
theorem dX1_scaled_2 : decode cX1_scaled 2 = .ok (.lconst 0, 1) := by decide +kernel
theorem dX1_scaled_3 : decode cX1_scaled 3 = .ok (.lcmp, 1) := by decide +kernel
theorem dX1_scaled_4 : decode cX1_scaled 4 = .ok (.ifCond .gt 7, 3) := by decide +kernel
theorem dX1_scaled_7 : decode cX1_scaled 7 = .ok (.lconst 0, 1) := by decide +kernel
theorem dX1_scaled_8 : decode cX1_scaled 8 = .ok (.goto 13, 3) := by decide +kernel
theorem dX1_scaled_11 : decode cX1_scaled 11 = .ok (.lload_n 0, 1) := by decide +kernel
theorem dX1_scaled_12 : decode cX1_scaled 12 = .ok (.lload_n 2, 1) := by decide +kernel
theorem dX1_scaled_13 : decode cX1_scaled 13 = .ok (.lmul, 1) := by decide +kernel
theorem dX1_scaled_14 : decode cX1_scaled 14 = .ok (.ldc2_w 80, 3) := by decide +kernel
theorem dX1_scaled_17 : decode cX1_scaled 17 = .ok (.lmul, 1) := by decide +kernel
theorem dX1_scaled_18 : decode cX1_scaled 18 = .ok (.lload 4, 2) := by decide +kernel
theorem dX1_scaled_20 : decode cX1_scaled 20 = .ok (.ldiv, 1) := by decide +kernel
theorem dX1_scaled_21 : decode cX1_scaled 21 = .ok (.lreturn, 1) := by decide +kernel
theorem dX2_init_0 : decode cX2_init 0 = .ok (.aload_n 0, 1) := by decide +kernel
theorem dX2_init_1 : decode cX2_init 1 = .ok (.invokespecial 3, 3) := by decide +kernel
theorem dX2_init_4 : decode cX2_init 4 = .ok (.aload_n 0, 1) := by decide +kernel
theorem dX2_init_5 : decode cX2_init 5 = .ok (.bipush 12, 2) := by decide +kernel
theorem dX2_init_7 : decode cX2_init 7 = .ok (.newarray .int, 2) := by decide +kernel
theorem dX2_init_9 : decode cX2_init 9 = .ok (.putfield 9, 3) := by decide +kernel
theorem dX2_init_12 : decode cX2_init 12 = .ok (.aload_n 0, 1) := by decide +kernel
theorem dX2_init_13 : decode cX2_init 13 = .ok (.iconst 5, 1) := by decide +kernel
theorem dX2_init_14 : decode cX2_init 14 = .ok (.newarray .int, 2) := by decide +kernel
theorem dX2_init_16 : decode cX2_init 16 = .ok (.putfield 15, 3) := by decide +kernel
theorem dX2_init_19 : decode cX2_init 19 = .ok (.aload_n 0, 1) := by decide +kernel
theorem dX2_init_20 : decode cX2_init 20 = .ok (.iconst 5, 1) := by decide +kernel
theorem dX2_init_21 : decode cX2_init 21 = .ok (.newarray .int, 2) := by decide +kernel
theorem dX2_init_23 : decode cX2_init 23 = .ok (.putfield 18, 3) := by decide +kernel
theorem dX2_init_26 : decode cX2_init 26 = .ok (.aload_n 0, 1) := by decide +kernel
theorem dX2_init_27 : decode cX2_init 27 = .ok (.bipush 25, 2) := by decide +kernel
theorem dX2_init_29 : decode cX2_init 29 = .ok (.newarray .int, 2) := by decide +kernel
theorem dX2_init_31 : decode cX2_init 31 = .ok (.putfield 21, 3) := by decide +kernel
theorem dX2_init_34 : decode cX2_init 34 = .ok (.return_, 1) := by decide +kernel
set_option maxRecDepth 20000 in
theorem ggX2_startAnew_J7_fill_53178 : GoodIn wsX2_startAnew wsJ7_fill_53178 := goodIn_r _ [8] (by decide +kernel) (by decide +kernel)
set_option maxRecDepth 20000 in
theorem gX2_startAnew_J7_fill_53178 : GoodIn wsX2_startAnew (va_wsS RX2 24 yJ7_fill_53178 wsJ7_fill_53178) := goodIn_app (goodIn_of _ (by decide +kernel)) ggX2_startAnew_J7_fill_53178
theorem dX2_startAnew_0 : decode cX2_startAnew 0 = .ok (.aload_n 0, 1) := by decide +kernel
theorem dX2_startAnew_1 : decode cX2_startAnew 1 = .ok (.getfield 9, 3) := by decide +kernel
theorem dX2_startAnew_4 : decode cX2_startAnew 4 = .ok (.iconst 0, 1) := by decide +kernel
theorem dX2_startAnew_5 : decode cX2_startAnew 5 = .ok (.invokestatic 24, 3) := by decide +kernel
theorem dX2_startAnew_8 : decode cX2_startAnew 8 = .ok (.aload_n 0, 1) := by decide +kernel
theorem dX2_startAnew_9 : decode cX2_startAnew 9 = .ok (.getfield 15, 3) := by decide +kernel
theorem dX2_startAnew_12 : decode cX2_startAnew 12 = .ok (.iconst 0, 1) := by decide +kernel
theorem dX2_startAnew_13 : decode cX2_startAnew 13 = .ok (.invokestatic 24, 3) := by decide +kernel
theorem dX2_startAnew_16 : decode cX2_startAnew 16 = .ok (.aload_n 0, 1) := by decide +kernel
theorem dX2_startAnew_17 : decode cX2_startAnew 17 = .ok (.getfield 18, 3) := by decide +kernel
theorem dX2_startAnew_20 : decode cX2_startAnew 20 = .ok (.iconst 0, 1) := by decide +kernel
theorem dX2_startAnew_21 : decode cX2_startAnew 21 = .ok (.invokestatic 24, 3) := by decide +kernel
theorem dX2_startAnew_24 : decode cX2_startAnew 24 = .ok (.aload_n 0, 1) := by decide +kernel
theorem dX2_startAnew_25 : decode cX2_startAnew 25 = .ok (.getfield 21, 3) := by decide +kernel
theorem dX2_startAnew_28 : decode cX2_startAnew 28 = .ok (.iconst (-1), 1) := by decide +kernel
theorem dX2_startAnew_29 : decode cX2_startAnew 29 = .ok (.invokestatic 24, 3) := by decide +kernel
theorem dX2_startAnew_32 : decode cX2_startAnew 32 = .ok (.return_, 1) := by decide +kernel
theorem dX2_hasPair_0 : decode cX2_hasPair 0 = .ok (.aload_n 0, 1) := by decide +kernel
theorem dX2_hasPair_1 : decode cX2_hasPair 1 = .ok (.getfield 21, 3) := by decide +kernel
theorem dX2_hasPair_4 : decode cX2_hasPair 4 = .ok (.iload_n 1, 1) := by decide +kernel
theorem dX2_hasPair_5 : decode cX2_hasPair 5 = .ok (.iaload, 1) := by decide +kernel
theorem dX2_hasPair_6 : decode cX2_hasPair 6 = .ok (.iconst (-1), 1) := by decide +kernel
theorem dX2_hasPair_7 : decode cX2_hasPair 7 = .ok (.if_icmp .eq 7, 3) := by decide +kernel
theorem dX2_hasPair_10 : decode cX2_hasPair 10 = .ok (.iconst 1, 1) := by decide +kernel
theorem dX2_hasPair_11 : decode cX2_hasPair 11 = .ok (.goto 4, 3) := by decide +kernel
theorem dX2_hasPair_14 : decode cX2_hasPair 14 = .ok (.iconst 0, 1) := by decide +kernel
theorem dX2_hasPair_15 : decode cX2_hasPair 15 = .ok (.ireturn, 1) := by decide +kernel
set_option maxRecDepth 20000 in
theorem ggX2_take_X3_loadOf : GoodIn wsX2_take wsX3_loadOf := goodIn_r _ [9, 10, 11, 12, 8, 13, 14, 15, 24, 25, 26, 27, 28, 29, 30, 31] (by decide +kernel) (by decide +kernel)
set_option maxRecDepth 20000 in
theorem gX2_take_X3_loadOf : GoodIn wsX2_take (wsV RX2 36 RX3 yX3_loadOf wsX3_loadOf) := goodIn_app (goodIn_of _ (by decide +kernel)) ggX2_take_X3_loadOf
set_option maxRecDepth 20000 in
theorem ggX2_take_J7_fill_53178 : GoodIn wsX2_take wsJ7_fill_53178 := goodIn_r _ [19] (by decide +kernel) (by decide +kernel)
set_option maxRecDepth 20000 in
theorem gX2_take_J7_fill_53178 : GoodIn wsX2_take (va_wsS RX2 24 yJ7_fill_53178 wsJ7_fill_53178) := goodIn_app (goodIn_of _ (by decide +kernel)) ggX2_take_J7_fill_53178
set_option maxRecDepth 20000 in
theorem ggX2_take_X3_hasRoute : GoodIn wsX2_take wsX3_hasRoute := goodIn_r _ [23, 14, 24, 25, 26, 27, 28, 29, 30, 31] (by decide +kernel) (by decide +kernel)
set_option maxRecDepth 20000 in
theorem gX2_take_X3_hasRoute : GoodIn wsX2_take (wsV RX2 40 RX3 yX3_hasRoute wsX3_hasRoute) := goodIn_app (goodIn_of _ (by decide +kernel)) ggX2_take_X3_hasRoute
theorem dX2_take_0 : decode cX2_take 0 = .ok (.iconst 0, 1) := by decide +kernel
theorem dX2_take_1 : decode cX2_take 1 = .ok (.istore_n 3, 1) := by decide +kernel
theorem dX2_take_2 : decode cX2_take 2 = .ok (.iload_n 3, 1) := by decide +kernel
theorem dX2_take_3 : decode cX2_take 3 = .ok (.aload_n 1, 1) := by decide +kernel
theorem dX2_take_4 : decode cX2_take 4 = .ok (.getfield 30, 3) := by decide +kernel
theorem dX2_take_7 : decode cX2_take 7 = .ok (.if_icmp .ge 21, 3) := by decide +kernel
theorem dX2_take_10 : decode cX2_take 10 = .ok (.aload_n 0, 1) := by decide +kernel
theorem dX2_take_11 : decode cX2_take 11 = .ok (.getfield 9, 3) := by decide +kernel
theorem dX2_take_14 : decode cX2_take 14 = .ok (.iload_n 3, 1) := by decide +kernel
theorem dX2_take_15 : decode cX2_take 15 = .ok (.aload_n 1, 1) := by decide +kernel
theorem dX2_take_16 : decode cX2_take 16 = .ok (.iload_n 3, 1) := by decide +kernel
theorem dX2_take_17 : decode cX2_take 17 = .ok (.aload_n 2, 1) := by decide +kernel
theorem dX2_take_18 : decode cX2_take 18 = .ok (.invokevirtual 36, 3) := by decide +kernel
theorem dX2_take_21 : decode cX2_take 21 = .ok (.iastore, 1) := by decide +kernel
theorem dX2_take_22 : decode cX2_take 22 = .ok (.iinc 3 1, 3) := by decide +kernel
theorem dX2_take_25 : decode cX2_take 25 = .ok (.goto (-23), 3) := by decide +kernel
theorem dX2_take_28 : decode cX2_take 28 = .ok (.aload_n 0, 1) := by decide +kernel
theorem dX2_take_29 : decode cX2_take 29 = .ok (.getfield 15, 3) := by decide +kernel
theorem dX2_take_32 : decode cX2_take 32 = .ok (.iconst 0, 1) := by decide +kernel
theorem dX2_take_33 : decode cX2_take 33 = .ok (.invokestatic 24, 3) := by decide +kernel
theorem dX2_take_36 : decode cX2_take 36 = .ok (.aload_n 0, 1) := by decide +kernel
theorem dX2_take_37 : decode cX2_take 37 = .ok (.getfield 18, 3) := by decide +kernel
theorem dX2_take_40 : decode cX2_take 40 = .ok (.iconst 0, 1) := by decide +kernel
theorem dX2_take_41 : decode cX2_take 41 = .ok (.invokestatic 24, 3) := by decide +kernel
theorem dX2_take_44 : decode cX2_take 44 = .ok (.iconst 0, 1) := by decide +kernel
theorem dX2_take_45 : decode cX2_take 45 = .ok (.istore_n 3, 1) := by decide +kernel
theorem dX2_take_46 : decode cX2_take 46 = .ok (.iload_n 3, 1) := by decide +kernel
theorem dX2_take_47 : decode cX2_take 47 = .ok (.bipush 25, 2) := by decide +kernel
theorem dX2_take_49 : decode cX2_take 49 = .ok (.if_icmp .ge 45, 3) := by decide +kernel
theorem dX2_take_52 : decode cX2_take 52 = .ok (.aload_n 1, 1) := by decide +kernel
theorem dX2_take_53 : decode cX2_take 53 = .ok (.iload_n 3, 1) := by decide +kernel
theorem dX2_take_54 : decode cX2_take 54 = .ok (.invokevirtual 40, 3) := by decide +kernel
theorem dX2_take_57 : decode cX2_take 57 = .ok (.ifCond .eq 31, 3) := by decide +kernel
theorem dX2_take_60 : decode cX2_take 60 = .ok (.aload_n 0, 1) := by decide +kernel
theorem dX2_take_61 : decode cX2_take 61 = .ok (.getfield 15, 3) := by decide +kernel
theorem dX2_take_64 : decode cX2_take 64 = .ok (.iload_n 3, 1) := by decide +kernel
theorem dX2_take_65 : decode cX2_take 65 = .ok (.iconst 5, 1) := by decide +kernel
theorem dX2_take_66 : decode cX2_take 66 = .ok (.idiv, 1) := by decide +kernel
theorem dX2_take_67 : decode cX2_take 67 = .ok (.dup2, 1) := by decide +kernel
theorem dX2_take_68 : decode cX2_take 68 = .ok (.iaload, 1) := by decide +kernel
theorem dX2_take_69 : decode cX2_take 69 = .ok (.aload_n 2, 1) := by decide +kernel
theorem dX2_take_70 : decode cX2_take 70 = .ok (.iload_n 3, 1) := by decide +kernel
theorem dX2_take_71 : decode cX2_take 71 = .ok (.iaload, 1) := by decide +kernel
theorem dX2_take_72 : decode cX2_take 72 = .ok (.iadd, 1) := by decide +kernel
theorem dX2_take_73 : decode cX2_take 73 = .ok (.iastore, 1) := by decide +kernel
theorem dX2_take_74 : decode cX2_take 74 = .ok (.aload_n 0, 1) := by decide +kernel
theorem dX2_take_75 : decode cX2_take 75 = .ok (.getfield 18, 3) := by decide +kernel
theorem dX2_take_78 : decode cX2_take 78 = .ok (.iload_n 3, 1) := by decide +kernel
theorem dX2_take_79 : decode cX2_take 79 = .ok (.iconst 5, 1) := by decide +kernel
theorem dX2_take_80 : decode cX2_take 80 = .ok (.irem, 1) := by decide +kernel
theorem dX2_take_81 : decode cX2_take 81 = .ok (.dup2, 1) := by decide +kernel
theorem dX2_take_82 : decode cX2_take 82 = .ok (.iaload, 1) := by decide +kernel
theorem dX2_take_83 : decode cX2_take 83 = .ok (.aload_n 2, 1) := by decide +kernel
theorem dX2_take_84 : decode cX2_take 84 = .ok (.iload_n 3, 1) := by decide +kernel
theorem dX2_take_85 : decode cX2_take 85 = .ok (.iaload, 1) := by decide +kernel
theorem dX2_take_86 : decode cX2_take 86 = .ok (.iadd, 1) := by decide +kernel
theorem dX2_take_87 : decode cX2_take 87 = .ok (.iastore, 1) := by decide +kernel
theorem dX2_take_88 : decode cX2_take 88 = .ok (.iinc 3 1, 3) := by decide +kernel
theorem dX2_take_91 : decode cX2_take 91 = .ok (.goto (-45), 3) := by decide +kernel
theorem dX2_take_94 : decode cX2_take 94 = .ok (.return_, 1) := by decide +kernel
theorem dX2_sumOfOutTotals_0 : decode cX2_sumOfOutTotals 0 = .ok (.iconst 0, 1) := by decide +kernel
theorem dX2_sumOfOutTotals_1 : decode cX2_sumOfOutTotals 1 = .ok (.istore_n 1, 1) := by decide +kernel
theorem dX2_sumOfOutTotals_2 : decode cX2_sumOfOutTotals 2 = .ok (.iconst 0, 1) := by decide +kernel
theorem dX2_sumOfOutTotals_3 : decode cX2_sumOfOutTotals 3 = .ok (.istore_n 2, 1) := by decide +kernel
theorem dX2_sumOfOutTotals_4 : decode cX2_sumOfOutTotals 4 = .ok (.iload_n 2, 1) := by decide +kernel
theorem dX2_sumOfOutTotals_5 : decode cX2_sumOfOutTotals 5 = .ok (.iconst 5, 1) := by decide +kernel
theorem dX2_sumOfOutTotals_6 : decode cX2_sumOfOutTotals 6 = .ok (.if_icmp .ge 18, 3) := by decide +kernel
theorem dX2_sumOfOutTotals_9 : decode cX2_sumOfOutTotals 9 = .ok (.iload_n 1, 1) := by decide +kernel
theorem dX2_sumOfOutTotals_10 : decode cX2_sumOfOutTotals 10 = .ok (.aload_n 0, 1) := by decide +kernel
theorem dX2_sumOfOutTotals_11 : decode cX2_sumOfOutTotals 11 = .ok (.getfield 15, 3) := by decide +kernel
theorem dX2_sumOfOutTotals_14 : decode cX2_sumOfOutTotals 14 = .ok (.iload_n 2, 1) := by decide +kernel
theorem dX2_sumOfOutTotals_15 : decode cX2_sumOfOutTotals 15 = .ok (.iaload, 1) := by decide +kernel
theorem dX2_sumOfOutTotals_16 : decode cX2_sumOfOutTotals 16 = .ok (.iadd, 1) := by decide +kernel
theorem dX2_sumOfOutTotals_17 : decode cX2_sumOfOutTotals 17 = .ok (.istore_n 1, 1) := by decide +kernel
theorem dX2_sumOfOutTotals_18 : decode cX2_sumOfOutTotals 18 = .ok (.iinc 2 1, 3) := by decide +kernel
theorem dX2_sumOfOutTotals_21 : decode cX2_sumOfOutTotals 21 = .ok (.goto (-17), 3) := by decide +kernel
theorem dX2_sumOfOutTotals_24 : decode cX2_sumOfOutTotals 24 = .ok (.iload_n 1, 1) := by decide +kernel
theorem dX2_sumOfOutTotals_25 : decode cX2_sumOfOutTotals 25 = .ok (.ireturn, 1) := by decide +kernel
theorem dX3_init_0 : decode cX3_init 0 = .ok (.aload_n 0, 1) := by decide +kernel
theorem dX3_init_1 : decode cX3_init 1 = .ok (.invokespecial 3, 3) := by decide +kernel
theorem dX3_init_4 : decode cX3_init 4 = .ok (.aload_n 0, 1) := by decide +kernel
theorem dX3_init_5 : decode cX3_init 5 = .ok (.bipush 12, 2) := by decide +kernel
theorem dX3_init_7 : decode cX3_init 7 = .ok (.newarray .int, 2) := by decide +kernel
theorem dX3_init_9 : decode cX3_init 9 = .ok (.putfield 9, 3) := by decide +kernel
theorem dX3_init_12 : decode cX3_init 12 = .ok (.aload_n 0, 1) := by decide +kernel
theorem dX3_init_13 : decode cX3_init 13 = .ok (.bipush 12, 2) := by decide +kernel
theorem dX3_init_15 : decode cX3_init 15 = .ok (.newarray .int, 2) := by decide +kernel
theorem dX3_init_17 : decode cX3_init 17 = .ok (.putfield 15, 3) := by decide +kernel
theorem dX3_init_20 : decode cX3_init 20 = .ok (.aload_n 0, 1) := by decide +kernel
theorem dX3_init_21 : decode cX3_init 21 = .ok (.bipush 12, 2) := by decide +kernel
theorem dX3_init_23 : decode cX3_init 23 = .ok (.newarray .int, 2) := by decide +kernel
theorem dX3_init_25 : decode cX3_init 25 = .ok (.putfield 18, 3) := by decide +kernel
theorem dX3_init_28 : decode cX3_init 28 = .ok (.aload_n 0, 1) := by decide +kernel
theorem dX3_init_29 : decode cX3_init 29 = .ok (.bipush 25, 2) := by decide +kernel
theorem dX3_init_31 : decode cX3_init 31 = .ok (.newarray .int, 2) := by decide +kernel
theorem dX3_init_33 : decode cX3_init 33 = .ok (.putfield 21, 3) := by decide +kernel
theorem dX3_init_36 : decode cX3_init 36 = .ok (.aload_n 0, 1) := by decide +kernel
theorem dX3_init_37 : decode cX3_init 37 = .ok (.bipush 25, 2) := by decide +kernel
theorem dX3_init_39 : decode cX3_init 39 = .ok (.iconst 4, 1) := by decide +kernel
theorem dX3_init_40 : decode cX3_init 40 = .ok (.multianewarray 24 2, 4) := by decide +kernel
theorem dX3_init_44 : decode cX3_init 44 = .ok (.putfield 26, 3) := by decide +kernel
theorem dX3_init_47 : decode cX3_init 47 = .ok (.aload_n 0, 1) := by decide +kernel
theorem dX3_init_48 : decode cX3_init 48 = .ok (.iconst 5, 1) := by decide +kernel
theorem dX3_init_49 : decode cX3_init 49 = .ok (.newarray .int, 2) := by decide +kernel
theorem dX3_init_51 : decode cX3_init 51 = .ok (.putfield 29, 3) := by decide +kernel
theorem dX3_init_54 : decode cX3_init 54 = .ok (.return_, 1) := by decide +kernel
set_option maxRecDepth 20000 in
theorem ggX3_startAnew_J7_fill_53178 : GoodIn wsX3_startAnew wsJ7_fill_53178 := goodIn_r _ [7] (by decide +kernel) (by decide +kernel)
set_option maxRecDepth 20000 in
theorem gX3_startAnew_J7_fill_53178 : GoodIn wsX3_startAnew (va_wsS RX3 39 yJ7_fill_53178 wsJ7_fill_53178) := goodIn_app (goodIn_of _ (by decide +kernel)) ggX3_startAnew_J7_fill_53178
theorem dX3_startAnew_0 : decode cX3_startAnew 0 = .ok (.aload_n 0, 1) := by decide +kernel
theorem dX3_startAnew_1 : decode cX3_startAnew 1 = .ok (.iload_n 1, 1) := by decide +kernel
theorem dX3_startAnew_2 : decode cX3_startAnew 2 = .ok (.putfield 32, 3) := by decide +kernel
theorem dX3_startAnew_5 : decode cX3_startAnew 5 = .ok (.aload_n 0, 1) := by decide +kernel
theorem dX3_startAnew_6 : decode cX3_startAnew 6 = .ok (.iconst 0, 1) := by decide +kernel
theorem dX3_startAnew_7 : decode cX3_startAnew 7 = .ok (.putfield 36, 3) := by decide +kernel
theorem dX3_startAnew_10 : decode cX3_startAnew 10 = .ok (.aload_n 0, 1) := by decide +kernel
theorem dX3_startAnew_11 : decode cX3_startAnew 11 = .ok (.getfield 21, 3) := by decide +kernel
theorem dX3_startAnew_14 : decode cX3_startAnew 14 = .ok (.iconst 0, 1) := by decide +kernel
theorem dX3_startAnew_15 : decode cX3_startAnew 15 = .ok (.invokestatic 39, 3) := by decide +kernel
theorem dX3_startAnew_18 : decode cX3_startAnew 18 = .ok (.return_, 1) := by decide +kernel
theorem dX3_hasNode_0 : decode cX3_hasNode 0 = .ok (.iload_n 1, 1) := by decide +kernel
theorem dX3_hasNode_1 : decode cX3_hasNode 1 = .ok (.ifCond .lt 15, 3) := by decide +kernel
theorem dX3_hasNode_4 : decode cX3_hasNode 4 = .ok (.iload_n 1, 1) := by decide +kernel
theorem dX3_hasNode_5 : decode cX3_hasNode 5 = .ok (.aload_n 0, 1) := by decide +kernel
theorem dX3_hasNode_6 : decode cX3_hasNode 6 = .ok (.getfield 32, 3) := by decide +kernel
theorem dX3_hasNode_9 : decode cX3_hasNode 9 = .ok (.if_icmp .ge 7, 3) := by decide +kernel
theorem dX3_hasNode_12 : decode cX3_hasNode 12 = .ok (.iconst 1, 1) := by decide +kernel
theorem dX3_hasNode_13 : decode cX3_hasNode 13 = .ok (.goto 4, 3) := by decide +kernel
theorem dX3_hasNode_16 : decode cX3_hasNode 16 = .ok (.iconst 0, 1) := by decide +kernel
theorem dX3_hasNode_17 : decode cX3_hasNode 17 = .ok (.ireturn, 1) := by decide +kernel
theorem dX3_hasLink_0 : decode cX3_hasLink 0 = .ok (.iload_n 1, 1) := by decide +kernel
theorem dX3_hasLink_1 : decode cX3_hasLink 1 = .ok (.ifCond .lt 15, 3) := by decide +kernel
theorem dX3_hasLink_4 : decode cX3_hasLink 4 = .ok (.iload_n 1, 1) := by decide +kernel
theorem dX3_hasLink_5 : decode cX3_hasLink 5 = .ok (.aload_n 0, 1) := by decide +kernel
theorem dX3_hasLink_6 : decode cX3_hasLink 6 = .ok (.getfield 36, 3) := by decide +kernel
theorem dX3_hasLink_9 : decode cX3_hasLink 9 = .ok (.if_icmp .ge 7, 3) := by decide +kernel
theorem dX3_hasLink_12 : decode cX3_hasLink 12 = .ok (.iconst 1, 1) := by decide +kernel
theorem dX3_hasLink_13 : decode cX3_hasLink 13 = .ok (.goto 4, 3) := by decide +kernel
theorem dX3_hasLink_16 : decode cX3_hasLink 16 = .ok (.iconst 0, 1) := by decide +kernel
theorem dX3_hasLink_17 : decode cX3_hasLink 17 = .ok (.ireturn, 1) := by decide +kernel
theorem dX3_hasRoute_0 : decode cX3_hasRoute 0 = .ok (.aload_n 0, 1) := by decide +kernel
theorem dX3_hasRoute_1 : decode cX3_hasRoute 1 = .ok (.getfield 21, 3) := by decide +kernel
theorem dX3_hasRoute_4 : decode cX3_hasRoute 4 = .ok (.iload_n 1, 1) := by decide +kernel
theorem dX3_hasRoute_5 : decode cX3_hasRoute 5 = .ok (.iaload, 1) := by decide +kernel
theorem dX3_hasRoute_6 : decode cX3_hasRoute 6 = .ok (.ifCond .le 7, 3) := by decide +kernel
theorem dX3_hasRoute_9 : decode cX3_hasRoute 9 = .ok (.iconst 1, 1) := by decide +kernel
theorem dX3_hasRoute_10 : decode cX3_hasRoute 10 = .ok (.goto 4, 3) := by decide +kernel
theorem dX3_hasRoute_13 : decode cX3_hasRoute 13 = .ok (.iconst 0, 1) := by decide +kernel
theorem dX3_hasRoute_14 : decode cX3_hasRoute 14 = .ok (.ireturn, 1) := by decide +kernel
theorem dX3_routeUses_0 : decode cX3_routeUses 0 = .ok (.iconst 0, 1) := by decide +kernel
theorem dX3_routeUses_1 : decode cX3_routeUses 1 = .ok (.istore_n 3, 1) := by decide +kernel
theorem dX3_routeUses_2 : decode cX3_routeUses 2 = .ok (.iload_n 3, 1) := by decide +kernel
theorem dX3_routeUses_3 : decode cX3_routeUses 3 = .ok (.aload_n 0, 1) := by decide +kernel
theorem dX3_routeUses_4 : decode cX3_routeUses 4 = .ok (.getfield 21, 3) := by decide +kernel
theorem dX3_routeUses_7 : decode cX3_routeUses 7 = .ok (.iload_n 1, 1) := by decide +kernel
theorem dX3_routeUses_8 : decode cX3_routeUses 8 = .ok (.iaload, 1) := by decide +kernel
theorem dX3_routeUses_9 : decode cX3_routeUses 9 = .ok (.if_icmp .ge 23, 3) := by decide +kernel
theorem dX3_routeUses_12 : decode cX3_routeUses 12 = .ok (.aload_n 0, 1) := by decide +kernel
theorem dX3_routeUses_13 : decode cX3_routeUses 13 = .ok (.getfield 26, 3) := by decide +kernel
theorem dX3_routeUses_16 : decode cX3_routeUses 16 = .ok (.iload_n 1, 1) := by decide +kernel
theorem dX3_routeUses_17 : decode cX3_routeUses 17 = .ok (.aaload, 1) := by decide +kernel
theorem dX3_routeUses_18 : decode cX3_routeUses 18 = .ok (.iload_n 3, 1) := by decide +kernel
theorem dX3_routeUses_19 : decode cX3_routeUses 19 = .ok (.iaload, 1) := by decide +kernel
theorem dX3_routeUses_20 : decode cX3_routeUses 20 = .ok (.iload_n 2, 1) := by decide +kernel
theorem dX3_routeUses_21 : decode cX3_routeUses 21 = .ok (.if_icmp .ne 5, 3) := by decide +kernel
theorem dX3_routeUses_24 : decode cX3_routeUses 24 = .ok (.iconst 1, 1) := by decide +kernel
theorem dX3_routeUses_25 : decode cX3_routeUses 25 = .ok (.ireturn, 1) := by decide +kernel
theorem dX3_routeUses_26 : decode cX3_routeUses 26 = .ok (.iinc 3 1, 3) := by decide +kernel
theorem dX3_routeUses_29 : decode cX3_routeUses 29 = .ok (.goto (-27), 3) := by decide +kernel
theorem dX3_routeUses_32 : decode cX3_routeUses 32 = .ok (.iconst 0, 1) := by decide +kernel
theorem dX3_routeUses_33 : decode cX3_routeUses 33 = .ok (.ireturn, 1) := by decide +kernel
set_option maxRecDepth 20000 in
theorem ggX3_loadOf_X3_routeUses : GoodIn wsX3_loadOf wsX3_routeUses := goodIn_r _ [5, 6, 7, 8, 9, 10, 11, 12, 13, 14, 15] (by decide +kernel) (by decide +kernel)
set_option maxRecDepth 20000 in
theorem gX3_loadOf_X3_routeUses : GoodIn wsX3_loadOf (wsV RX3 45 RX3 yX3_routeUses wsX3_routeUses) := goodIn_app (goodIn_of _ (by decide +kernel)) ggX3_loadOf_X3_routeUses
theorem dX3_loadOf_0 : decode cX3_loadOf 0 = .ok (.iconst 0, 1) := by decide +kernel
theorem dX3_loadOf_1 : decode cX3_loadOf 1 = .ok (.istore_n 3, 1) := by decide +kernel
theorem dX3_loadOf_2 : decode cX3_loadOf 2 = .ok (.iconst 0, 1) := by decide +kernel
theorem dX3_loadOf_3 : decode cX3_loadOf 3 = .ok (.istore 4, 2) := by decide +kernel
theorem dX3_loadOf_5 : decode cX3_loadOf 5 = .ok (.iload 4, 2) := by decide +kernel
theorem dX3_loadOf_7 : decode cX3_loadOf 7 = .ok (.bipush 25, 2) := by decide +kernel
theorem dX3_loadOf_9 : decode cX3_loadOf 9 = .ok (.if_icmp .ge 26, 3) := by decide +kernel
theorem dX3_loadOf_12 : decode cX3_loadOf 12 = .ok (.aload_n 0, 1) := by decide +kernel
theorem dX3_loadOf_13 : decode cX3_loadOf 13 = .ok (.iload 4, 2) := by decide +kernel
theorem dX3_loadOf_15 : decode cX3_loadOf 15 = .ok (.iload_n 1, 1) := by decide +kernel
theorem dX3_loadOf_16 : decode cX3_loadOf 16 = .ok (.invokevirtual 45, 3) := by decide +kernel
theorem dX3_loadOf_19 : decode cX3_loadOf 19 = .ok (.ifCond .eq 10, 3) := by decide +kernel
theorem dX3_loadOf_22 : decode cX3_loadOf 22 = .ok (.iload_n 3, 1) := by decide +kernel
theorem dX3_loadOf_23 : decode cX3_loadOf 23 = .ok (.aload_n 2, 1) := by decide +kernel
theorem dX3_loadOf_24 : decode cX3_loadOf 24 = .ok (.iload 4, 2) := by decide +kernel
theorem dX3_loadOf_26 : decode cX3_loadOf 26 = .ok (.iaload, 1) := by decide +kernel
theorem dX3_loadOf_27 : decode cX3_loadOf 27 = .ok (.iadd, 1) := by decide +kernel
theorem dX3_loadOf_28 : decode cX3_loadOf 28 = .ok (.istore_n 3, 1) := by decide +kernel
theorem dX3_loadOf_29 : decode cX3_loadOf 29 = .ok (.iinc 4 1, 3) := by decide +kernel
theorem dX3_loadOf_32 : decode cX3_loadOf 32 = .ok (.goto (-27), 3) := by decide +kernel
theorem dX3_loadOf_35 : decode cX3_loadOf 35 = .ok (.iload_n 3, 1) := by decide +kernel
theorem dX3_loadOf_36 : decode cX3_loadOf 36 = .ok (.ireturn, 1) := by decide +kernel
set_option maxRecDepth 20000 in
theorem ggX3_append_X3_findRoutes : GoodIn wsX3_append wsX3_findRoutes := goodIn_r _ [9, 10, 11, 12, 13, 8, 14, 15, 16, 1, 2, 17, 18, 19, 20, 21, 22, 23, 24, 25, 26, 27, 28, 4, 3, 29, 30, 31, 32, 33, 34, 35, 36, 37, 38, 39, 40, 41, 42, 43, 44, 45, 46, 47, 48, 49] (by decide +kernel) (by decide +kernel)
set_option maxRecDepth 20000 in
theorem gX3_append_X3_findRoutes : GoodIn wsX3_append (wsV RX3 49 RX3 yX3_findRoutes wsX3_findRoutes) := goodIn_app (goodIn_of _ (by decide +kernel)) ggX3_append_X3_findRoutes
theorem dX3_append_0 : decode cX3_append 0 = .ok (.aload_n 0, 1) := by decide +kernel
theorem dX3_append_1 : decode cX3_append 1 = .ok (.getfield 36, 3) := by decide +kernel
theorem dX3_append_4 : decode cX3_append 4 = .ok (.istore 4, 2) := by decide +kernel
theorem dX3_append_6 : decode cX3_append 6 = .ok (.aload_n 0, 1) := by decide +kernel
theorem dX3_append_7 : decode cX3_append 7 = .ok (.getfield 9, 3) := by decide +kernel
theorem dX3_append_10 : decode cX3_append 10 = .ok (.iload 4, 2) := by decide +kernel
theorem dX3_append_12 : decode cX3_append 12 = .ok (.iload_n 1, 1) := by decide +kernel
theorem dX3_append_13 : decode cX3_append 13 = .ok (.iastore, 1) := by decide +kernel
theorem dX3_append_14 : decode cX3_append 14 = .ok (.aload_n 0, 1) := by decide +kernel
theorem dX3_append_15 : decode cX3_append 15 = .ok (.getfield 15, 3) := by decide +kernel
theorem dX3_append_18 : decode cX3_append 18 = .ok (.iload 4, 2) := by decide +kernel
theorem dX3_append_20 : decode cX3_append 20 = .ok (.iload_n 2, 1) := by decide +kernel
theorem dX3_append_21 : decode cX3_append 21 = .ok (.iastore, 1) := by decide +kernel
theorem dX3_append_22 : decode cX3_append 22 = .ok (.aload_n 0, 1) := by decide +kernel
theorem dX3_append_23 : decode cX3_append 23 = .ok (.getfield 18, 3) := by decide +kernel
theorem dX3_append_26 : decode cX3_append 26 = .ok (.iload 4, 2) := by decide +kernel
theorem dX3_append_28 : decode cX3_append 28 = .ok (.iload_n 3, 1) := by decide +kernel
theorem dX3_append_29 : decode cX3_append 29 = .ok (.iastore, 1) := by decide +kernel
theorem dX3_append_30 : decode cX3_append 30 = .ok (.aload_n 0, 1) := by decide +kernel
theorem dX3_append_31 : decode cX3_append 31 = .ok (.dup, 1) := by decide +kernel
theorem dX3_append_32 : decode cX3_append 32 = .ok (.getfield 36, 3) := by decide +kernel
theorem dX3_append_35 : decode cX3_append 35 = .ok (.iconst 1, 1) := by decide +kernel
theorem dX3_append_36 : decode cX3_append 36 = .ok (.iadd, 1) := by decide +kernel
theorem dX3_append_37 : decode cX3_append 37 = .ok (.putfield 36, 3) := by decide +kernel
theorem dX3_append_40 : decode cX3_append 40 = .ok (.aload_n 0, 1) := by decide +kernel
theorem dX3_append_41 : decode cX3_append 41 = .ok (.invokevirtual 49, 3) := by decide +kernel
theorem dX3_append_44 : decode cX3_append 44 = .ok (.iload 4, 2) := by decide +kernel
theorem dX3_append_46 : decode cX3_append 46 = .ok (.ireturn, 1) := by decide +kernel
set_option maxRecDepth 20000 in
theorem ggX3_replaceMetric_X3_findRoutes : GoodIn wsX3_replaceMetric wsX3_findRoutes := goodIn_r _ [6, 7, 8, 9, 10, 5, 11, 12, 13, 14, 15, 16, 17, 18, 19, 20, 21, 22, 23, 24, 25, 26, 27, 1, 28, 29, 30, 31, 32, 33, 34, 35, 36, 37, 38, 39, 40, 41, 42, 43, 44, 45, 46, 47, 48, 49] (by decide +kernel) (by decide +kernel)
set_option maxRecDepth 20000 in
theorem gX3_replaceMetric_X3_findRoutes : GoodIn wsX3_replaceMetric (wsV RX3 49 RX3 yX3_findRoutes wsX3_findRoutes) := goodIn_app (goodIn_of _ (by decide +kernel)) ggX3_replaceMetric_X3_findRoutes
theorem dX3_replaceMetric_0 : decode cX3_replaceMetric 0 = .ok (.aload_n 0, 1) := by decide +kernel
theorem dX3_replaceMetric_1 : decode cX3_replaceMetric 1 = .ok (.getfield 18, 3) := by decide +kernel
theorem dX3_replaceMetric_4 : decode cX3_replaceMetric 4 = .ok (.iload_n 1, 1) := by decide +kernel
theorem dX3_replaceMetric_5 : decode cX3_replaceMetric 5 = .ok (.iaload, 1) := by decide +kernel
theorem dX3_replaceMetric_6 : decode cX3_replaceMetric 6 = .ok (.istore_n 3, 1) := by decide +kernel
theorem dX3_replaceMetric_7 : decode cX3_replaceMetric 7 = .ok (.aload_n 0, 1) := by decide +kernel
theorem dX3_replaceMetric_8 : decode cX3_replaceMetric 8 = .ok (.getfield 18, 3) := by decide +kernel
theorem dX3_replaceMetric_11 : decode cX3_replaceMetric 11 = .ok (.iload_n 1, 1) := by decide +kernel
theorem dX3_replaceMetric_12 : decode cX3_replaceMetric 12 = .ok (.iload_n 2, 1) := by decide +kernel
theorem dX3_replaceMetric_13 : decode cX3_replaceMetric 13 = .ok (.iastore, 1) := by decide +kernel
theorem dX3_replaceMetric_14 : decode cX3_replaceMetric 14 = .ok (.aload_n 0, 1) := by decide +kernel
theorem dX3_replaceMetric_15 : decode cX3_replaceMetric 15 = .ok (.invokevirtual 49, 3) := by decide +kernel
theorem dX3_replaceMetric_18 : decode cX3_replaceMetric 18 = .ok (.iload_n 3, 1) := by decide +kernel
theorem dX3_replaceMetric_19 : decode cX3_replaceMetric 19 = .ok (.ireturn, 1) := by decide +kernel
set_option maxRecDepth 20000 in
theorem ggX3_findRoutes_X3_findCostsTo : GoodIn wsX3_findRoutes wsX3_findCostsTo := goodIn_r _ [6, 7, 8, 9, 10, 11, 12, 13, 14, 15, 16, 17, 18, 19, 20, 21, 5, 22, 23, 24, 38, 39, 40, 41, 42, 43, 44, 45] (by decide +kernel) (by decide +kernel)
set_option maxRecDepth 20000 in
theorem gX3_findRoutes_X3_findCostsTo : GoodIn wsX3_findRoutes (wsV RX3 52 RX3 yX3_findCostsTo wsX3_findCostsTo) := goodIn_app (goodIn_of _ (by decide +kernel)) ggX3_findRoutes_X3_findCostsTo
set_option maxRecDepth 20000 in
theorem ggX3_findRoutes_X3_findRoute : GoodIn wsX3_findRoutes wsX3_findRoute := goodIn_r _ [28, 29, 24, 30, 31, 32, 33, 34, 35, 36, 5, 37, 7, 8, 9, 10, 19, 20, 21, 22, 23, 38, 39, 40, 41, 42, 43, 44, 45] (by decide +kernel) (by decide +kernel)
set_option maxRecDepth 20000 in
theorem gX3_findRoutes_X3_findRoute : GoodIn wsX3_findRoutes (wsV RX3 56 RX3 yX3_findRoute wsX3_findRoute) := goodIn_app (goodIn_of _ (by decide +kernel)) ggX3_findRoutes_X3_findRoute
theorem dX3_findRoutes_0 : decode cX3_findRoutes 0 = .ok (.iconst 0, 1) := by decide +kernel
theorem dX3_findRoutes_1 : decode cX3_findRoutes 1 = .ok (.istore_n 1, 1) := by decide +kernel
theorem dX3_findRoutes_2 : decode cX3_findRoutes 2 = .ok (.iload_n 1, 1) := by decide +kernel
theorem dX3_findRoutes_3 : decode cX3_findRoutes 3 = .ok (.aload_n 0, 1) := by decide +kernel
theorem dX3_findRoutes_4 : decode cX3_findRoutes 4 = .ok (.getfield 32, 3) := by decide +kernel
theorem dX3_findRoutes_7 : decode cX3_findRoutes 7 = .ok (.if_icmp .ge 36, 3) := by decide +kernel
theorem dX3_findRoutes_10 : decode cX3_findRoutes 10 = .ok (.aload_n 0, 1) := by decide +kernel
theorem dX3_findRoutes_11 : decode cX3_findRoutes 11 = .ok (.iload_n 1, 1) := by decide +kernel
theorem dX3_findRoutes_12 : decode cX3_findRoutes 12 = .ok (.invokevirtual 52, 3) := by decide +kernel
theorem dX3_findRoutes_15 : decode cX3_findRoutes 15 = .ok (.iconst 0, 1) := by decide +kernel
theorem dX3_findRoutes_16 : decode cX3_findRoutes 16 = .ok (.istore_n 2, 1) := by decide +kernel
theorem dX3_findRoutes_17 : decode cX3_findRoutes 17 = .ok (.iload_n 2, 1) := by decide +kernel
theorem dX3_findRoutes_18 : decode cX3_findRoutes 18 = .ok (.aload_n 0, 1) := by decide +kernel
theorem dX3_findRoutes_19 : decode cX3_findRoutes 19 = .ok (.getfield 32, 3) := by decide +kernel
theorem dX3_findRoutes_22 : decode cX3_findRoutes 22 = .ok (.if_icmp .ge 15, 3) := by decide +kernel
theorem dX3_findRoutes_25 : decode cX3_findRoutes 25 = .ok (.aload_n 0, 1) := by decide +kernel
theorem dX3_findRoutes_26 : decode cX3_findRoutes 26 = .ok (.iload_n 2, 1) := by decide +kernel
theorem dX3_findRoutes_27 : decode cX3_findRoutes 27 = .ok (.iload_n 1, 1) := by decide +kernel
theorem dX3_findRoutes_28 : decode cX3_findRoutes 28 = .ok (.invokevirtual 56, 3) := by decide +kernel
theorem dX3_findRoutes_31 : decode cX3_findRoutes 31 = .ok (.iinc 2 1, 3) := by decide +kernel
theorem dX3_findRoutes_34 : decode cX3_findRoutes 34 = .ok (.goto (-17), 3) := by decide +kernel
theorem dX3_findRoutes_37 : decode cX3_findRoutes 37 = .ok (.iinc 1 1, 3) := by decide +kernel
theorem dX3_findRoutes_40 : decode cX3_findRoutes 40 = .ok (.goto (-38), 3) := by decide +kernel
theorem dX3_findRoutes_43 : decode cX3_findRoutes 43 = .ok (.return_, 1) := by decide +kernel
set_option maxRecDepth 20000 in
theorem ggX3_findCostsTo_J7_fill_53178 : GoodIn wsX3_findCostsTo wsJ7_fill_53178 := goodIn_r _ [12] (by decide +kernel) (by decide +kernel)
set_option maxRecDepth 20000 in
theorem gX3_findCostsTo_J7_fill_53178 : GoodIn wsX3_findCostsTo (va_wsS RX3 39 yJ7_fill_53178 wsJ7_fill_53178) := goodIn_app (goodIn_of _ (by decide +kernel)) ggX3_findCostsTo_J7_fill_53178
set_option maxRecDepth 20000 in
theorem ggX3_findCostsTo_X3_costOver : GoodIn wsX3_findCostsTo wsX3_costOver := goodIn_r _ [17, 18, 1, 19, 20, 21, 22, 23, 24, 25, 26, 27] (by decide +kernel) (by decide +kernel)
set_option maxRecDepth 20000 in
theorem gX3_findCostsTo_X3_costOver : GoodIn wsX3_findCostsTo (wsV RX3 61 RX3 yX3_costOver wsX3_costOver) := goodIn_app (goodIn_of _ (by decide +kernel)) ggX3_findCostsTo_X3_costOver
theorem dX3_findCostsTo_0 : decode cX3_findCostsTo 0 = .ok (.aload_n 0, 1) := by decide +kernel
theorem dX3_findCostsTo_1 : decode cX3_findCostsTo 1 = .ok (.getfield 29, 3) := by decide +kernel
theorem dX3_findCostsTo_4 : decode cX3_findCostsTo 4 = .ok (.ldc 60, 2) := by decide +kernel
theorem dX3_findCostsTo_6 : decode cX3_findCostsTo 6 = .ok (.invokestatic 39, 3) := by decide +kernel
theorem dX3_findCostsTo_9 : decode cX3_findCostsTo 9 = .ok (.aload_n 0, 1) := by decide +kernel
theorem dX3_findCostsTo_10 : decode cX3_findCostsTo 10 = .ok (.getfield 29, 3) := by decide +kernel
theorem dX3_findCostsTo_13 : decode cX3_findCostsTo 13 = .ok (.iload_n 1, 1) := by decide +kernel
theorem dX3_findCostsTo_14 : decode cX3_findCostsTo 14 = .ok (.iconst 0, 1) := by decide +kernel
theorem dX3_findCostsTo_15 : decode cX3_findCostsTo 15 = .ok (.iastore, 1) := by decide +kernel
theorem dX3_findCostsTo_16 : decode cX3_findCostsTo 16 = .ok (.iconst 0, 1) := by decide +kernel
theorem dX3_findCostsTo_17 : decode cX3_findCostsTo 17 = .ok (.istore_n 2, 1) := by decide +kernel
theorem dX3_findCostsTo_18 : decode cX3_findCostsTo 18 = .ok (.iload_n 2, 1) := by decide +kernel
theorem dX3_findCostsTo_19 : decode cX3_findCostsTo 19 = .ok (.iconst 4, 1) := by decide +kernel
theorem dX3_findCostsTo_20 : decode cX3_findCostsTo 20 = .ok (.if_icmp .ge 55, 3) := by decide +kernel
theorem dX3_findCostsTo_23 : decode cX3_findCostsTo 23 = .ok (.iconst 0, 1) := by decide +kernel
theorem dX3_findCostsTo_24 : decode cX3_findCostsTo 24 = .ok (.istore_n 3, 1) := by decide +kernel
theorem dX3_findCostsTo_25 : decode cX3_findCostsTo 25 = .ok (.iload_n 3, 1) := by decide +kernel
theorem dX3_findCostsTo_26 : decode cX3_findCostsTo 26 = .ok (.aload_n 0, 1) := by decide +kernel
theorem dX3_findCostsTo_27 : decode cX3_findCostsTo 27 = .ok (.getfield 36, 3) := by decide +kernel
theorem dX3_findCostsTo_30 : decode cX3_findCostsTo 30 = .ok (.if_icmp .ge 39, 3) := by decide +kernel
theorem dX3_findCostsTo_33 : decode cX3_findCostsTo 33 = .ok (.aload_n 0, 1) := by decide +kernel
theorem dX3_findCostsTo_34 : decode cX3_findCostsTo 34 = .ok (.getfield 9, 3) := by decide +kernel
theorem dX3_findCostsTo_37 : decode cX3_findCostsTo 37 = .ok (.iload_n 3, 1) := by decide +kernel
theorem dX3_findCostsTo_38 : decode cX3_findCostsTo 38 = .ok (.iaload, 1) := by decide +kernel
theorem dX3_findCostsTo_39 : decode cX3_findCostsTo 39 = .ok (.istore 4, 2) := by decide +kernel
theorem dX3_findCostsTo_41 : decode cX3_findCostsTo 41 = .ok (.aload_n 0, 1) := by decide +kernel
theorem dX3_findCostsTo_42 : decode cX3_findCostsTo 42 = .ok (.getfield 29, 3) := by decide +kernel
theorem dX3_findCostsTo_45 : decode cX3_findCostsTo 45 = .ok (.iload 4, 2) := by decide +kernel
theorem dX3_findCostsTo_47 : decode cX3_findCostsTo 47 = .ok (.aload_n 0, 1) := by decide +kernel
theorem dX3_findCostsTo_48 : decode cX3_findCostsTo 48 = .ok (.getfield 29, 3) := by decide +kernel
theorem dX3_findCostsTo_51 : decode cX3_findCostsTo 51 = .ok (.iload 4, 2) := by decide +kernel
theorem dX3_findCostsTo_53 : decode cX3_findCostsTo 53 = .ok (.iaload, 1) := by decide +kernel
theorem dX3_findCostsTo_54 : decode cX3_findCostsTo 54 = .ok (.aload_n 0, 1) := by decide +kernel
theorem dX3_findCostsTo_55 : decode cX3_findCostsTo 55 = .ok (.iload_n 3, 1) := by decide +kernel
theorem dX3_findCostsTo_56 : decode cX3_findCostsTo 56 = .ok (.invokevirtual 61, 3) := by decide +kernel
theorem dX3_findCostsTo_59 : decode cX3_findCostsTo 59 = .ok (.invokestatic 65, 3) := by decide +kernel
theorem dX3_findCostsTo_62 : decode cX3_findCostsTo 62 = .ok (.iastore, 1) := by decide +kernel
theorem dX3_findCostsTo_63 : decode cX3_findCostsTo 63 = .ok (.iinc 3 1, 3) := by decide +kernel
theorem dX3_findCostsTo_66 : decode cX3_findCostsTo 66 = .ok (.goto (-41), 3) := by decide +kernel
theorem dX3_findCostsTo_69 : decode cX3_findCostsTo 69 = .ok (.iinc 2 1, 3) := by decide +kernel
theorem dX3_findCostsTo_72 : decode cX3_findCostsTo 72 = .ok (.goto (-54), 3) := by decide +kernel
theorem dX3_findCostsTo_75 : decode cX3_findCostsTo 75 = .ok (.return_, 1) := by decide +kernel
theorem dX3_costOver_0 : decode cX3_costOver 0 = .ok (.aload_n 0, 1) := by decide +kernel
theorem dX3_costOver_1 : decode cX3_costOver 1 = .ok (.getfield 18, 3) := by decide +kernel
theorem dX3_costOver_4 : decode cX3_costOver 4 = .ok (.iload_n 1, 1) := by decide +kernel
theorem dX3_costOver_5 : decode cX3_costOver 5 = .ok (.iaload, 1) := by decide +kernel
theorem dX3_costOver_6 : decode cX3_costOver 6 = .ok (.bipush 8, 2) := by decide +kernel
theorem dX3_costOver_8 : decode cX3_costOver 8 = .ok (.imul, 1) := by decide +kernel
theorem dX3_costOver_9 : decode cX3_costOver 9 = .ok (.iconst 1, 1) := by decide +kernel
theorem dX3_costOver_10 : decode cX3_costOver 10 = .ok (.iadd, 1) := by decide +kernel
theorem dX3_costOver_11 : decode cX3_costOver 11 = .ok (.aload_n 0, 1) := by decide +kernel
theorem dX3_costOver_12 : decode cX3_costOver 12 = .ok (.getfield 29, 3) := by decide +kernel
theorem dX3_costOver_15 : decode cX3_costOver 15 = .ok (.aload_n 0, 1) := by decide +kernel
theorem dX3_costOver_16 : decode cX3_costOver 16 = .ok (.getfield 15, 3) := by decide +kernel
theorem dX3_costOver_19 : decode cX3_costOver 19 = .ok (.iload_n 1, 1) := by decide +kernel
theorem dX3_costOver_20 : decode cX3_costOver 20 = .ok (.iaload, 1) := by decide +kernel
theorem dX3_costOver_21 : decode cX3_costOver 21 = .ok (.iaload, 1) := by decide +kernel
theorem dX3_costOver_22 : decode cX3_costOver 22 = .ok (.iadd, 1) := by decide +kernel
theorem dX3_costOver_23 : decode cX3_costOver 23 = .ok (.ireturn, 1) := by decide +kernel
set_option maxRecDepth 20000 in
theorem ggX3_findRoute_X4_slotOf : GoodIn wsX3_findRoute wsX4_slotOf := goodIn_r _ [6] (by decide +kernel) (by decide +kernel)
set_option maxRecDepth 20000 in
theorem gX3_findRoute_X4_slotOf_n71 : GoodIn wsX3_findRoute (wsX4_slotOf) := ggX3_findRoute_X4_slotOf
set_option maxRecDepth 20000 in
theorem ggX3_findRoute_X3_cheapestFrom : GoodIn wsX3_findRoute wsX3_cheapestFrom := goodIn_r _ [11, 12, 13, 14, 15, 16, 17, 18, 10, 19, 20, 2, 21, 22, 23, 24, 25, 26, 27, 28] (by decide +kernel) (by decide +kernel)
set_option maxRecDepth 20000 in
theorem gX3_findRoute_X3_cheapestFrom : GoodIn wsX3_findRoute (wsV RX3 74 RX3 yX3_cheapestFrom wsX3_cheapestFrom) := goodIn_app (goodIn_of _ (by decide +kernel)) ggX3_findRoute_X3_cheapestFrom
theorem dX3_findRoute_0 : decode cX3_findRoute 0 = .ok (.iload_n 1, 1) := by decide +kernel
theorem dX3_findRoute_1 : decode cX3_findRoute 1 = .ok (.iload_n 2, 1) := by decide +kernel
theorem dX3_findRoute_2 : decode cX3_findRoute 2 = .ok (.invokestatic 71, 3) := by decide +kernel
theorem dX3_findRoute_5 : decode cX3_findRoute 5 = .ok (.istore_n 3, 1) := by decide +kernel
theorem dX3_findRoute_6 : decode cX3_findRoute 6 = .ok (.iconst 0, 1) := by decide +kernel
theorem dX3_findRoute_7 : decode cX3_findRoute 7 = .ok (.istore 4, 2) := by decide +kernel
theorem dX3_findRoute_9 : decode cX3_findRoute 9 = .ok (.iload_n 1, 1) := by decide +kernel
theorem dX3_findRoute_10 : decode cX3_findRoute 10 = .ok (.istore 5, 2) := by decide +kernel
theorem dX3_findRoute_12 : decode cX3_findRoute 12 = .ok (.iload 5, 2) := by decide +kernel
theorem dX3_findRoute_14 : decode cX3_findRoute 14 = .ok (.iload_n 2, 1) := by decide +kernel
theorem dX3_findRoute_15 : decode cX3_findRoute 15 = .ok (.if_icmp .eq 52, 3) := by decide +kernel
theorem dX3_findRoute_18 : decode cX3_findRoute 18 = .ok (.iload 4, 2) := by decide +kernel
theorem dX3_findRoute_20 : decode cX3_findRoute 20 = .ok (.iconst 4, 1) := by decide +kernel
theorem dX3_findRoute_21 : decode cX3_findRoute 21 = .ok (.if_icmp .ge 46, 3) := by decide +kernel
theorem dX3_findRoute_24 : decode cX3_findRoute 24 = .ok (.aload_n 0, 1) := by decide +kernel
theorem dX3_findRoute_25 : decode cX3_findRoute 25 = .ok (.iload 5, 2) := by decide +kernel
theorem dX3_findRoute_27 : decode cX3_findRoute 27 = .ok (.invokevirtual 74, 3) := by decide +kernel
theorem dX3_findRoute_30 : decode cX3_findRoute 30 = .ok (.istore 6, 2) := by decide +kernel
theorem dX3_findRoute_32 : decode cX3_findRoute 32 = .ok (.iload 6, 2) := by decide +kernel
theorem dX3_findRoute_34 : decode cX3_findRoute 34 = .ok (.iconst (-1), 1) := by decide +kernel
theorem dX3_findRoute_35 : decode cX3_findRoute 35 = .ok (.if_icmp .ne 6, 3) := by decide +kernel
theorem dX3_findRoute_38 : decode cX3_findRoute 38 = .ok (.goto 29, 3) := by decide +kernel
theorem dX3_findRoute_41 : decode cX3_findRoute 41 = .ok (.aload_n 0, 1) := by decide +kernel
theorem dX3_findRoute_42 : decode cX3_findRoute 42 = .ok (.getfield 26, 3) := by decide +kernel
theorem dX3_findRoute_45 : decode cX3_findRoute 45 = .ok (.iload_n 3, 1) := by decide +kernel
theorem dX3_findRoute_46 : decode cX3_findRoute 46 = .ok (.aaload, 1) := by decide +kernel
theorem dX3_findRoute_47 : decode cX3_findRoute 47 = .ok (.iload 4, 2) := by decide +kernel
theorem dX3_findRoute_49 : decode cX3_findRoute 49 = .ok (.iload 6, 2) := by decide +kernel
theorem dX3_findRoute_51 : decode cX3_findRoute 51 = .ok (.iastore, 1) := by decide +kernel
theorem dX3_findRoute_52 : decode cX3_findRoute 52 = .ok (.iinc 4 1, 3) := by decide +kernel
theorem dX3_findRoute_55 : decode cX3_findRoute 55 = .ok (.aload_n 0, 1) := by decide +kernel
theorem dX3_findRoute_56 : decode cX3_findRoute 56 = .ok (.getfield 15, 3) := by decide +kernel
theorem dX3_findRoute_59 : decode cX3_findRoute 59 = .ok (.iload 6, 2) := by decide +kernel
theorem dX3_findRoute_61 : decode cX3_findRoute 61 = .ok (.iaload, 1) := by decide +kernel
theorem dX3_findRoute_62 : decode cX3_findRoute 62 = .ok (.istore 5, 2) := by decide +kernel
theorem dX3_findRoute_64 : decode cX3_findRoute 64 = .ok (.goto (-52), 3) := by decide +kernel
theorem dX3_findRoute_67 : decode cX3_findRoute 67 = .ok (.aload_n 0, 1) := by decide +kernel
theorem dX3_findRoute_68 : decode cX3_findRoute 68 = .ok (.getfield 21, 3) := by decide +kernel
theorem dX3_findRoute_71 : decode cX3_findRoute 71 = .ok (.iload_n 3, 1) := by decide +kernel
theorem dX3_findRoute_72 : decode cX3_findRoute 72 = .ok (.iload 5, 2) := by decide +kernel
theorem dX3_findRoute_74 : decode cX3_findRoute 74 = .ok (.iload_n 2, 1) := by decide +kernel
theorem dX3_findRoute_75 : decode cX3_findRoute 75 = .ok (.if_icmp .ne 8, 3) := by decide +kernel
theorem dX3_findRoute_78 : decode cX3_findRoute 78 = .ok (.iload 4, 2) := by decide +kernel
theorem dX3_findRoute_80 : decode cX3_findRoute 80 = .ok (.goto 4, 3) := by decide +kernel
theorem dX3_findRoute_83 : decode cX3_findRoute 83 = .ok (.iconst 0, 1) := by decide +kernel
theorem dX3_findRoute_84 : decode cX3_findRoute 84 = .ok (.iastore, 1) := by decide +kernel
theorem dX3_findRoute_85 : decode cX3_findRoute 85 = .ok (.return_, 1) := by decide +kernel
set_option maxRecDepth 20000 in
theorem ggX3_cheapestFrom_X3_costOver : GoodIn wsX3_cheapestFrom wsX3_costOver := goodIn_r _ [9, 10, 1, 11, 12, 13, 14, 15, 16, 17, 18, 19] (by decide +kernel) (by decide +kernel)
set_option maxRecDepth 20000 in
theorem gX3_cheapestFrom_X3_costOver : GoodIn wsX3_cheapestFrom (wsV RX3 61 RX3 yX3_costOver wsX3_costOver) := goodIn_app (goodIn_of _ (by decide +kernel)) ggX3_cheapestFrom_X3_costOver
theorem dX3_cheapestFrom_0 : decode cX3_cheapestFrom 0 = .ok (.aload_n 0, 1) := by decide +kernel
theorem dX3_cheapestFrom_1 : decode cX3_cheapestFrom 1 = .ok (.getfield 29, 3) := by decide +kernel
theorem dX3_cheapestFrom_4 : decode cX3_cheapestFrom 4 = .ok (.iload_n 1, 1) := by decide +kernel
theorem dX3_cheapestFrom_5 : decode cX3_cheapestFrom 5 = .ok (.iaload, 1) := by decide +kernel
theorem dX3_cheapestFrom_6 : decode cX3_cheapestFrom 6 = .ok (.ldc 60, 2) := by decide +kernel
theorem dX3_cheapestFrom_8 : decode cX3_cheapestFrom 8 = .ok (.if_icmp .lt 5, 3) := by decide +kernel
theorem dX3_cheapestFrom_11 : decode cX3_cheapestFrom 11 = .ok (.iconst (-1), 1) := by decide +kernel
theorem dX3_cheapestFrom_12 : decode cX3_cheapestFrom 12 = .ok (.ireturn, 1) := by decide +kernel
theorem dX3_cheapestFrom_13 : decode cX3_cheapestFrom 13 = .ok (.iconst 0, 1) := by decide +kernel
theorem dX3_cheapestFrom_14 : decode cX3_cheapestFrom 14 = .ok (.istore_n 2, 1) := by decide +kernel
theorem dX3_cheapestFrom_15 : decode cX3_cheapestFrom 15 = .ok (.iload_n 2, 1) := by decide +kernel
theorem dX3_cheapestFrom_16 : decode cX3_cheapestFrom 16 = .ok (.aload_n 0, 1) := by decide +kernel
theorem dX3_cheapestFrom_17 : decode cX3_cheapestFrom 17 = .ok (.getfield 36, 3) := by decide +kernel
theorem dX3_cheapestFrom_20 : decode cX3_cheapestFrom 20 = .ok (.if_icmp .ge 35, 3) := by decide +kernel
theorem dX3_cheapestFrom_23 : decode cX3_cheapestFrom 23 = .ok (.aload_n 0, 1) := by decide +kernel
theorem dX3_cheapestFrom_24 : decode cX3_cheapestFrom 24 = .ok (.getfield 9, 3) := by decide +kernel
theorem dX3_cheapestFrom_27 : decode cX3_cheapestFrom 27 = .ok (.iload_n 2, 1) := by decide +kernel
theorem dX3_cheapestFrom_28 : decode cX3_cheapestFrom 28 = .ok (.iaload, 1) := by decide +kernel
theorem dX3_cheapestFrom_29 : decode cX3_cheapestFrom 29 = .ok (.iload_n 1, 1) := by decide +kernel
theorem dX3_cheapestFrom_30 : decode cX3_cheapestFrom 30 = .ok (.if_icmp .ne 19, 3) := by decide +kernel
theorem dX3_cheapestFrom_33 : decode cX3_cheapestFrom 33 = .ok (.aload_n 0, 1) := by decide +kernel
theorem dX3_cheapestFrom_34 : decode cX3_cheapestFrom 34 = .ok (.iload_n 2, 1) := by decide +kernel
theorem dX3_cheapestFrom_35 : decode cX3_cheapestFrom 35 = .ok (.invokevirtual 61, 3) := by decide +kernel
theorem dX3_cheapestFrom_38 : decode cX3_cheapestFrom 38 = .ok (.aload_n 0, 1) := by decide +kernel
theorem dX3_cheapestFrom_39 : decode cX3_cheapestFrom 39 = .ok (.getfield 29, 3) := by decide +kernel
theorem dX3_cheapestFrom_42 : decode cX3_cheapestFrom 42 = .ok (.iload_n 1, 1) := by decide +kernel
theorem dX3_cheapestFrom_43 : decode cX3_cheapestFrom 43 = .ok (.iaload, 1) := by decide +kernel
theorem dX3_cheapestFrom_44 : decode cX3_cheapestFrom 44 = .ok (.if_icmp .ne 5, 3) := by decide +kernel
theorem dX3_cheapestFrom_47 : decode cX3_cheapestFrom 47 = .ok (.iload_n 2, 1) := by decide +kernel
theorem dX3_cheapestFrom_48 : decode cX3_cheapestFrom 48 = .ok (.ireturn, 1) := by decide +kernel
theorem dX3_cheapestFrom_49 : decode cX3_cheapestFrom 49 = .ok (.iinc 2 1, 3) := by decide +kernel
theorem dX3_cheapestFrom_52 : decode cX3_cheapestFrom 52 = .ok (.goto (-37), 3) := by decide +kernel
theorem dX3_cheapestFrom_55 : decode cX3_cheapestFrom 55 = .ok (.iconst (-1), 1) := by decide +kernel
theorem dX3_cheapestFrom_56 : decode cX3_cheapestFrom 56 = .ok (.ireturn, 1) := by decide +kernel
theorem dJ9_abs_067f4_0 : decode cJ9_abs_067f4 0 = .ok (.lload_n 0, 1) := by decide +kernel
theorem dJ9_abs_067f4_1 : decode cJ9_abs_067f4 1 = .ok (.lconst 0, 1) := by decide +kernel
theorem dJ9_abs_067f4_2 : decode cJ9_abs_067f4 2 = .ok (.lcmp, 1) := by decide +kernel
theorem dJ9_abs_067f4_3 : decode cJ9_abs_067f4 3 = .ok (.ifCond .ge 8, 3) := by decide +kernel
theorem dJ9_abs_067f4_6 : decode cJ9_abs_067f4 6 = .ok (.lload_n 0, 1) := by decide +kernel
theorem dJ9_abs_067f4_7 : decode cJ9_abs_067f4 7 = .ok (.lneg, 1) := by decide +kernel
theorem dJ9_abs_067f4_8 : decode cJ9_abs_067f4 8 = .ok (.goto 4, 3) := by decide +kernel
theorem dJ9_abs_067f4_11 : decode cJ9_abs_067f4 11 = .ok (.lload_n 0, 1) := by decide +kernel
theorem dJ9_abs_067f4_12 : decode cJ9_abs_067f4 12 = .ok (.lreturn, 1) := by decide +kernel
theorem dJ9_min_7cf53_0 : decode cJ9_min_7cf53 0 = .ok (.iload_n 0, 1) := by decide +kernel
theorem dJ9_min_7cf53_1 : decode cJ9_min_7cf53 1 = .ok (.iload_n 1, 1) := by decide +kernel
theorem dJ9_min_7cf53_2 : decode cJ9_min_7cf53 2 = .ok (.if_icmp .gt 7, 3) := by decide +kernel
theorem dJ9_min_7cf53_5 : decode cJ9_min_7cf53 5 = .ok (.iload_n 0, 1) := by decide +kernel
theorem dJ9_min_7cf53_6 : decode cJ9_min_7cf53 6 = .ok (.goto 4, 3) := by decide +kernel
theorem dJ9_min_7cf53_9 : decode cJ9_min_7cf53 9 = .ok (.iload_n 1, 1) := by decide +kernel
theorem dJ9_min_7cf53_10 : decode cJ9_min_7cf53 10 = .ok (.ireturn, 1) := by decide +kernel
theorem dJ7_fill_d0a16_0 : decode cJ7_fill_d0a16 0 = .ok (.iconst 0, 1) := by decide +kernel
theorem dJ7_fill_d0a16_1 : decode cJ7_fill_d0a16 1 = .ok (.istore_n 3, 1) := by decide +kernel
theorem dJ7_fill_d0a16_2 : decode cJ7_fill_d0a16 2 = .ok (.aload_n 0, 1) := by decide +kernel
theorem dJ7_fill_d0a16_3 : decode cJ7_fill_d0a16 3 = .ok (.arraylength, 1) := by decide +kernel
theorem dJ7_fill_d0a16_4 : decode cJ7_fill_d0a16 4 = .ok (.istore 4, 2) := by decide +kernel
theorem dJ7_fill_d0a16_6 : decode cJ7_fill_d0a16 6 = .ok (.iload_n 3, 1) := by decide +kernel
theorem dJ7_fill_d0a16_7 : decode cJ7_fill_d0a16 7 = .ok (.iload 4, 2) := by decide +kernel
theorem dJ7_fill_d0a16_9 : decode cJ7_fill_d0a16 9 = .ok (.if_icmp .ge 13, 3) := by decide +kernel
theorem dJ7_fill_d0a16_12 : decode cJ7_fill_d0a16 12 = .ok (.aload_n 0, 1) := by decide +kernel
theorem dJ7_fill_d0a16_13 : decode cJ7_fill_d0a16 13 = .ok (.iload_n 3, 1) := by decide +kernel
theorem dJ7_fill_d0a16_14 : decode cJ7_fill_d0a16 14 = .ok (.lload_n 1, 1) := by decide +kernel
theorem dJ7_fill_d0a16_15 : decode cJ7_fill_d0a16 15 = .ok (.lastore, 1) := by decide +kernel
theorem dJ7_fill_d0a16_16 : decode cJ7_fill_d0a16 16 = .ok (.iinc 3 1, 3) := by decide +kernel
theorem dJ7_fill_d0a16_19 : decode cJ7_fill_d0a16 19 = .ok (.goto (-13), 3) := by decide +kernel
theorem dJ7_fill_d0a16_22 : decode cJ7_fill_d0a16 22 = .ok (.return_, 1) := by decide +kernel
theorem dJ7_fill_53178_0 : decode cJ7_fill_53178 0 = .ok (.iconst 0, 1) := by decide +kernel
theorem dJ7_fill_53178_1 : decode cJ7_fill_53178 1 = .ok (.istore_n 2, 1) := by decide +kernel
theorem dJ7_fill_53178_2 : decode cJ7_fill_53178 2 = .ok (.aload_n 0, 1) := by decide +kernel
theorem dJ7_fill_53178_3 : decode cJ7_fill_53178 3 = .ok (.arraylength, 1) := by decide +kernel
theorem dJ7_fill_53178_4 : decode cJ7_fill_53178 4 = .ok (.istore_n 3, 1) := by decide +kernel
theorem dJ7_fill_53178_5 : decode cJ7_fill_53178 5 = .ok (.iload_n 2, 1) := by decide +kernel
theorem dJ7_fill_53178_6 : decode cJ7_fill_53178 6 = .ok (.iload_n 3, 1) := by decide +kernel
theorem dJ7_fill_53178_7 : decode cJ7_fill_53178 7 = .ok (.if_icmp .ge 13, 3) := by decide +kernel
theorem dJ7_fill_53178_10 : decode cJ7_fill_53178 10 = .ok (.aload_n 0, 1) := by decide +kernel
theorem dJ7_fill_53178_11 : decode cJ7_fill_53178 11 = .ok (.iload_n 2, 1) := by decide +kernel
theorem dJ7_fill_53178_12 : decode cJ7_fill_53178 12 = .ok (.iload_n 1, 1) := by decide +kernel
theorem dJ7_fill_53178_13 : decode cJ7_fill_53178 13 = .ok (.iastore, 1) := by decide +kernel
theorem dJ7_fill_53178_14 : decode cJ7_fill_53178 14 = .ok (.iinc 2 1, 3) := by decide +kernel
theorem dJ7_fill_53178_17 : decode cJ7_fill_53178 17 = .ok (.goto (-12), 3) := by decide +kernel
theorem dJ7_fill_53178_20 : decode cJ7_fill_53178 20 = .ok (.return_, 1) := by decide +kernel
end
section
set_option maxRecDepth 20000 in
theorem ggX4_init_X3_init : GoodIn wsX4_init wsX3_init := goodIn_r _ [23, 24, 2, 3, 8, 25, 26, 27, 28, 29, 30, 31, 69, 70, 71, 72, 73, 74, 75, 76] (by decide +kernel) (by decide +kernel)
set_option maxRecDepth 20000 in
theorem gX4_init_X3_init_n13 : GoodIn wsX4_init (wsX3_init) := ggX4_init_X3_init
set_option maxRecDepth 20000 in
theorem ggX4_init_X2_init : GoodIn wsX4_init wsX2_init := goodIn_r _ [33, 34, 2, 3, 8, 35, 36, 37, 38, 82, 83, 84, 85] (by decide +kernel) (by decide +kernel)
set_option maxRecDepth 20000 in
theorem gX4_init_X2_init_n24 : GoodIn wsX4_init (wsX2_init) := ggX4_init_X2_init
set_option maxRecDepth 20000 in
theorem ggX4_init_X0_init : GoodIn wsX4_init wsX0_init := goodIn_r _ [40, 41, 2, 3, 42, 43, 44, 8, 45, 46, 47, 48, 86, 87, 88, 89, 90, 91, 92, 93] (by decide +kernel) (by decide +kernel)
set_option maxRecDepth 20000 in
theorem gX4_init_X0_init_n31 : GoodIn wsX4_init (wsX0_init) := ggX4_init_X0_init
set_option maxRecDepth 20000 in
theorem ggX4_init_X1_init : GoodIn wsX4_init wsX1_init := goodIn_r _ [50, 51, 2, 3, 43, 52, 53, 94, 95] (by decide +kernel) (by decide +kernel)
set_option maxRecDepth 20000 in
theorem gX4_init_X1_init_n38 : GoodIn wsX4_init (wsX1_init) := ggX4_init_X1_init
set_option maxRecDepth 20000 in
theorem ggX4_init_X3_startAnew : GoodIn wsX4_init wsX3_startAnew := goodIn_r _ [57, 58, 59, 28, 60, 61, 62, 63, 69, 70, 71, 72, 73, 74, 75, 76] (by decide +kernel) (by decide +kernel)
set_option maxRecDepth 20000 in
theorem gX4_init_X3_startAnew : GoodIn wsX4_init (wsV RX4 43 RX3 yX3_startAnew wsX3_startAnew) := goodIn_app (goodIn_of _ (by decide +kernel)) ggX4_init_X3_startAnew
set_option maxRecDepth 20000 in
theorem ggX4_init_X2_startAnew : GoodIn wsX4_init wsX2_startAnew := goodIn_r _ [67, 35, 36, 37, 38, 68, 61, 62, 63, 82, 83, 84, 85] (by decide +kernel) (by decide +kernel)
set_option maxRecDepth 20000 in
theorem gX4_init_X2_startAnew : GoodIn wsX4_init (wsV RX4 47 RX2 yX2_startAnew wsX2_startAnew) := goodIn_app (goodIn_of _ (by decide +kernel)) ggX4_init_X2_startAnew
theorem dX4_init_0 : decode cX4_init 0 = .ok (.aload_n 0, 1) := by decide +kernel
theorem dX4_init_1 : decode cX4_init 1 = .ok (.invokespecial 5, 3) := by decide +kernel
theorem dX4_init_4 : decode cX4_init 4 = .ok (.aload_n 0, 1) := by decide +kernel
theorem dX4_init_5 : decode cX4_init 5 = .ok (.new 11, 3) := by decide +kernel
theorem dX4_init_8 : decode cX4_init 8 = .ok (.dup, 1) := by decide +kernel
theorem dX4_init_9 : decode cX4_init 9 = .ok (.invokespecial 13, 3) := by decide +kernel
theorem dX4_init_12 : decode cX4_init 12 = .ok (.putfield 14, 3) := by decide +kernel
theorem dX4_init_15 : decode cX4_init 15 = .ok (.aload_n 0, 1) := by decide +kernel
theorem dX4_init_16 : decode cX4_init 16 = .ok (.bipush 25, 2) := by decide +kernel
theorem dX4_init_18 : decode cX4_init 18 = .ok (.newarray .int, 2) := by decide +kernel
theorem dX4_init_20 : decode cX4_init 20 = .ok (.putfield 18, 3) := by decide +kernel
theorem dX4_init_23 : decode cX4_init 23 = .ok (.aload_n 0, 1) := by decide +kernel
theorem dX4_init_24 : decode cX4_init 24 = .ok (.new 22, 3) := by decide +kernel
theorem dX4_init_27 : decode cX4_init 27 = .ok (.dup, 1) := by decide +kernel
theorem dX4_init_28 : decode cX4_init 28 = .ok (.invokespecial 24, 3) := by decide +kernel
theorem dX4_init_31 : decode cX4_init 31 = .ok (.putfield 25, 3) := by decide +kernel
theorem dX4_init_34 : decode cX4_init 34 = .ok (.aload_n 0, 1) := by decide +kernel
theorem dX4_init_35 : decode cX4_init 35 = .ok (.new 29, 3) := by decide +kernel
theorem dX4_init_38 : decode cX4_init 38 = .ok (.dup, 1) := by decide +kernel
theorem dX4_init_39 : decode cX4_init 39 = .ok (.invokespecial 31, 3) := by decide +kernel
theorem dX4_init_42 : decode cX4_init 42 = .ok (.putfield 32, 3) := by decide +kernel
theorem dX4_init_45 : decode cX4_init 45 = .ok (.aload_n 0, 1) := by decide +kernel
theorem dX4_init_46 : decode cX4_init 46 = .ok (.new 36, 3) := by decide +kernel
theorem dX4_init_49 : decode cX4_init 49 = .ok (.dup, 1) := by decide +kernel
theorem dX4_init_50 : decode cX4_init 50 = .ok (.invokespecial 38, 3) := by decide +kernel
theorem dX4_init_53 : decode cX4_init 53 = .ok (.putfield 39, 3) := by decide +kernel
theorem dX4_init_56 : decode cX4_init 56 = .ok (.aload_n 0, 1) := by decide +kernel
theorem dX4_init_57 : decode cX4_init 57 = .ok (.getfield 14, 3) := by decide +kernel
theorem dX4_init_60 : decode cX4_init 60 = .ok (.iconst 3, 1) := by decide +kernel
theorem dX4_init_61 : decode cX4_init 61 = .ok (.invokevirtual 43, 3) := by decide +kernel
theorem dX4_init_64 : decode cX4_init 64 = .ok (.aload_n 0, 1) := by decide +kernel
theorem dX4_init_65 : decode cX4_init 65 = .ok (.getfield 25, 3) := by decide +kernel
theorem dX4_init_68 : decode cX4_init 68 = .ok (.invokevirtual 47, 3) := by decide +kernel
theorem dX4_init_71 : decode cX4_init 71 = .ok (.return_, 1) := by decide +kernel
set_option maxRecDepth 20000 in
theorem ggX4_reset_X3_startAnew : GoodIn wsX4_reset wsX3_startAnew := goodIn_r _ [10, 11, 12, 13, 14, 15, 16, 17, 43, 44, 45, 46, 47, 48, 49, 50] (by decide +kernel) (by decide +kernel)
set_option maxRecDepth 20000 in
theorem gX4_reset_X3_startAnew : GoodIn wsX4_reset (wsV RX4 43 RX3 yX3_startAnew wsX3_startAnew) := goodIn_app (goodIn_of _ (by decide +kernel)) ggX4_reset_X3_startAnew
set_option maxRecDepth 20000 in
theorem ggX4_reset_J7_fill_53178 : GoodIn wsX4_reset wsJ7_fill_53178 := goodIn_r _ [17] (by decide +kernel) (by decide +kernel)
set_option maxRecDepth 20000 in
theorem gX4_reset_J7_fill_53178 : GoodIn wsX4_reset (va_wsS RX4 53 yJ7_fill_53178 wsJ7_fill_53178) := goodIn_app (goodIn_of _ (by decide +kernel)) ggX4_reset_J7_fill_53178
set_option maxRecDepth 20000 in
theorem ggX4_reset_X2_startAnew : GoodIn wsX4_reset wsX2_startAnew := goodIn_r _ [23, 24, 25, 26, 27, 28, 15, 16, 17, 51, 52, 53, 54] (by decide +kernel) (by decide +kernel)
set_option maxRecDepth 20000 in
theorem gX4_reset_X2_startAnew : GoodIn wsX4_reset (wsV RX4 47 RX2 yX2_startAnew wsX2_startAnew) := goodIn_app (goodIn_of _ (by decide +kernel)) ggX4_reset_X2_startAnew
set_option maxRecDepth 20000 in
theorem ggX4_reset_X1_startAnew : GoodIn wsX4_reset wsX1_startAnew := goodIn_r _ [33, 34, 35, 36, 16, 37, 55, 56] (by decide +kernel) (by decide +kernel)
set_option maxRecDepth 20000 in
theorem gX4_reset_X1_startAnew : GoodIn wsX4_reset (wsV RX4 59 RX1 yX1_startAnew wsX1_startAnew) := goodIn_app (goodIn_of _ (by decide +kernel)) ggX4_reset_X1_startAnew
theorem dX4_reset_0 : decode cX4_reset 0 = .ok (.iload_n 1, 1) := by decide +kernel
theorem dX4_reset_1 : decode cX4_reset 1 = .ok (.iconst 2, 1) := by decide +kernel
theorem dX4_reset_2 : decode cX4_reset 2 = .ok (.if_icmp .lt 8, 3) := by decide +kernel
theorem dX4_reset_5 : decode cX4_reset 5 = .ok (.iload_n 1, 1) := by decide +kernel
theorem dX4_reset_6 : decode cX4_reset 6 = .ok (.iconst 5, 1) := by decide +kernel
theorem dX4_reset_7 : decode cX4_reset 7 = .ok (.if_icmp .le 6, 3) := by decide +kernel
theorem dX4_reset_10 : decode cX4_reset 10 = .ok (.bipush (-4), 2) := by decide +kernel
theorem dX4_reset_12 : decode cX4_reset 12 = .ok (.ireturn, 1) := by decide +kernel
theorem dX4_reset_13 : decode cX4_reset 13 = .ok (.aload_n 0, 1) := by decide +kernel
theorem dX4_reset_14 : decode cX4_reset 14 = .ok (.getfield 14, 3) := by decide +kernel
theorem dX4_reset_17 : decode cX4_reset 17 = .ok (.getfield 49, 3) := by decide +kernel
theorem dX4_reset_20 : decode cX4_reset 20 = .ok (.istore_n 2, 1) := by decide +kernel
theorem dX4_reset_21 : decode cX4_reset 21 = .ok (.aload_n 0, 1) := by decide +kernel
theorem dX4_reset_22 : decode cX4_reset 22 = .ok (.getfield 14, 3) := by decide +kernel
theorem dX4_reset_25 : decode cX4_reset 25 = .ok (.iload_n 1, 1) := by decide +kernel
theorem dX4_reset_26 : decode cX4_reset 26 = .ok (.invokevirtual 43, 3) := by decide +kernel
theorem dX4_reset_29 : decode cX4_reset 29 = .ok (.aload_n 0, 1) := by decide +kernel
theorem dX4_reset_30 : decode cX4_reset 30 = .ok (.getfield 18, 3) := by decide +kernel
theorem dX4_reset_33 : decode cX4_reset 33 = .ok (.iconst 0, 1) := by decide +kernel
theorem dX4_reset_34 : decode cX4_reset 34 = .ok (.invokestatic 53, 3) := by decide +kernel
theorem dX4_reset_37 : decode cX4_reset 37 = .ok (.aload_n 0, 1) := by decide +kernel
theorem dX4_reset_38 : decode cX4_reset 38 = .ok (.getfield 25, 3) := by decide +kernel
theorem dX4_reset_41 : decode cX4_reset 41 = .ok (.invokevirtual 47, 3) := by decide +kernel
theorem dX4_reset_44 : decode cX4_reset 44 = .ok (.aload_n 0, 1) := by decide +kernel
theorem dX4_reset_45 : decode cX4_reset 45 = .ok (.getfield 39, 3) := by decide +kernel
theorem dX4_reset_48 : decode cX4_reset 48 = .ok (.invokevirtual 59, 3) := by decide +kernel
theorem dX4_reset_51 : decode cX4_reset 51 = .ok (.iload_n 2, 1) := by decide +kernel
theorem dX4_reset_52 : decode cX4_reset 52 = .ok (.ireturn, 1) := by decide +kernel
set_option maxRecDepth 20000 in
theorem ggX4_addLink_X4_pairError : GoodIn wsX4_addLink wsX4_pairError := goodIn_r _ [7, 1, 8, 9, 10, 11, 12, 13, 59, 60, 61, 62, 63, 64, 65, 66, 67, 68, 69, 70, 71] (by decide +kernel) (by decide +kernel)
set_option maxRecDepth 20000 in
theorem gX4_addLink_X4_pairError : GoodIn wsX4_addLink (wsV RX4 60 RX4 yX4_pairError wsX4_pairError) := goodIn_app (goodIn_of _ (by decide +kernel)) ggX4_addLink_X4_pairError
set_option maxRecDepth 20000 in
theorem ggX4_addLink_X4_isMetric : GoodIn wsX4_addLink wsX4_isMetric := goodIn_r _ [16] (by decide +kernel) (by decide +kernel)
set_option maxRecDepth 20000 in
theorem gX4_addLink_X4_isMetric : GoodIn wsX4_addLink (va_wsS RX4 64 yX4_isMetric wsX4_isMetric) := goodIn_app (goodIn_of _ (by decide +kernel)) ggX4_addLink_X4_isMetric
set_option maxRecDepth 20000 in
theorem ggX4_addLink_X3_append : GoodIn wsX4_addLink wsX3_append := goodIn_r _ [20, 21, 22, 23, 24, 25, 26, 27, 11, 28, 13, 29, 30, 31, 32, 33, 34, 35, 36, 37, 38, 39, 40, 41, 42, 43, 44, 45, 46, 47, 48, 49, 50, 51, 52, 53, 6, 54, 55, 56, 57, 58, 64, 65, 66, 67, 68, 69, 70, 71] (by decide +kernel) (by decide +kernel)
set_option maxRecDepth 20000 in
theorem gX4_addLink_X3_append : GoodIn wsX4_addLink (wsV RX4 68 RX3 yX3_append wsX3_append) := goodIn_app (goodIn_of _ (by decide +kernel)) ggX4_addLink_X3_append
theorem dX4_addLink_0 : decode cX4_addLink 0 = .ok (.aload_n 0, 1) := by decide +kernel
theorem dX4_addLink_1 : decode cX4_addLink 1 = .ok (.iload_n 1, 1) := by decide +kernel
theorem dX4_addLink_2 : decode cX4_addLink 2 = .ok (.iload_n 2, 1) := by decide +kernel
theorem dX4_addLink_3 : decode cX4_addLink 3 = .ok (.invokevirtual 60, 3) := by decide +kernel
theorem dX4_addLink_6 : decode cX4_addLink 6 = .ok (.istore 4, 2) := by decide +kernel
theorem dX4_addLink_8 : decode cX4_addLink 8 = .ok (.iload 4, 2) := by decide +kernel
theorem dX4_addLink_10 : decode cX4_addLink 10 = .ok (.ifCond .eq 6, 3) := by decide +kernel
theorem dX4_addLink_13 : decode cX4_addLink 13 = .ok (.iload 4, 2) := by decide +kernel
theorem dX4_addLink_15 : decode cX4_addLink 15 = .ok (.ireturn, 1) := by decide +kernel
theorem dX4_addLink_16 : decode cX4_addLink 16 = .ok (.iload_n 3, 1) := by decide +kernel
theorem dX4_addLink_17 : decode cX4_addLink 17 = .ok (.invokestatic 64, 3) := by decide +kernel
theorem dX4_addLink_20 : decode cX4_addLink 20 = .ok (.ifCond .ne 6, 3) := by decide +kernel
theorem dX4_addLink_23 : decode cX4_addLink 23 = .ok (.bipush (-4), 2) := by decide +kernel
theorem dX4_addLink_25 : decode cX4_addLink 25 = .ok (.ireturn, 1) := by decide +kernel
theorem dX4_addLink_26 : decode cX4_addLink 26 = .ok (.aload_n 0, 1) := by decide +kernel
theorem dX4_addLink_27 : decode cX4_addLink 27 = .ok (.getfield 14, 3) := by decide +kernel
theorem dX4_addLink_30 : decode cX4_addLink 30 = .ok (.getfield 49, 3) := by decide +kernel
theorem dX4_addLink_33 : decode cX4_addLink 33 = .ok (.bipush 12, 2) := by decide +kernel
theorem dX4_addLink_35 : decode cX4_addLink 35 = .ok (.if_icmp .lt 6, 3) := by decide +kernel
theorem dX4_addLink_38 : decode cX4_addLink 38 = .ok (.bipush (-5), 2) := by decide +kernel
theorem dX4_addLink_40 : decode cX4_addLink 40 = .ok (.ireturn, 1) := by decide +kernel
theorem dX4_addLink_41 : decode cX4_addLink 41 = .ok (.aload_n 0, 1) := by decide +kernel
theorem dX4_addLink_42 : decode cX4_addLink 42 = .ok (.getfield 14, 3) := by decide +kernel
theorem dX4_addLink_45 : decode cX4_addLink 45 = .ok (.iload_n 1, 1) := by decide +kernel
theorem dX4_addLink_46 : decode cX4_addLink 46 = .ok (.iload_n 2, 1) := by decide +kernel
theorem dX4_addLink_47 : decode cX4_addLink 47 = .ok (.iload_n 3, 1) := by decide +kernel
theorem dX4_addLink_48 : decode cX4_addLink 48 = .ok (.invokevirtual 68, 3) := by decide +kernel
theorem dX4_addLink_51 : decode cX4_addLink 51 = .ok (.ireturn, 1) := by decide +kernel
set_option maxRecDepth 20000 in
theorem ggX4_setMetric_X3_hasLink : GoodIn wsX4_setMetric wsX3_hasLink := goodIn_r _ [6, 7, 59, 60, 61, 62, 63, 64, 65, 66] (by decide +kernel) (by decide +kernel)
set_option maxRecDepth 20000 in
theorem gX4_setMetric_X3_hasLink : GoodIn wsX4_setMetric (wsV RX4 72 RX3 yX3_hasLink wsX3_hasLink) := goodIn_app (goodIn_of _ (by decide +kernel)) ggX4_setMetric_X3_hasLink
set_option maxRecDepth 20000 in
theorem ggX4_setMetric_X4_isMetric : GoodIn wsX4_setMetric wsX4_isMetric := goodIn_r _ [11] (by decide +kernel) (by decide +kernel)
set_option maxRecDepth 20000 in
theorem gX4_setMetric_X4_isMetric : GoodIn wsX4_setMetric (va_wsS RX4 64 yX4_isMetric wsX4_isMetric) := goodIn_app (goodIn_of _ (by decide +kernel)) ggX4_setMetric_X4_isMetric
set_option maxRecDepth 20000 in
theorem ggX4_setMetric_X3_replaceMetric : GoodIn wsX4_setMetric wsX3_replaceMetric := goodIn_r _ [15, 16, 17, 18, 19, 5, 20, 21, 22, 23, 24, 25, 26, 27, 7, 28, 29, 30, 31, 32, 33, 34, 35, 36, 37, 38, 39, 40, 41, 42, 43, 44, 45, 46, 47, 48, 10, 49, 50, 51, 52, 53, 59, 60, 61, 62, 63, 64, 65, 66] (by decide +kernel) (by decide +kernel)
set_option maxRecDepth 20000 in
theorem gX4_setMetric_X3_replaceMetric : GoodIn wsX4_setMetric (wsV RX4 75 RX3 yX3_replaceMetric wsX3_replaceMetric) := goodIn_app (goodIn_of _ (by decide +kernel)) ggX4_setMetric_X3_replaceMetric
theorem dX4_setMetric_0 : decode cX4_setMetric 0 = .ok (.aload_n 0, 1) := by decide +kernel
theorem dX4_setMetric_1 : decode cX4_setMetric 1 = .ok (.getfield 14, 3) := by decide +kernel
theorem dX4_setMetric_4 : decode cX4_setMetric 4 = .ok (.iload_n 1, 1) := by decide +kernel
theorem dX4_setMetric_5 : decode cX4_setMetric 5 = .ok (.invokevirtual 72, 3) := by decide +kernel
theorem dX4_setMetric_8 : decode cX4_setMetric 8 = .ok (.ifCond .ne 6, 3) := by decide +kernel
theorem dX4_setMetric_11 : decode cX4_setMetric 11 = .ok (.bipush (-3), 2) := by decide +kernel
theorem dX4_setMetric_13 : decode cX4_setMetric 13 = .ok (.ireturn, 1) := by decide +kernel
theorem dX4_setMetric_14 : decode cX4_setMetric 14 = .ok (.iload_n 2, 1) := by decide +kernel
theorem dX4_setMetric_15 : decode cX4_setMetric 15 = .ok (.invokestatic 64, 3) := by decide +kernel
theorem dX4_setMetric_18 : decode cX4_setMetric 18 = .ok (.ifCond .ne 6, 3) := by decide +kernel
theorem dX4_setMetric_21 : decode cX4_setMetric 21 = .ok (.bipush (-4), 2) := by decide +kernel
theorem dX4_setMetric_23 : decode cX4_setMetric 23 = .ok (.ireturn, 1) := by decide +kernel
theorem dX4_setMetric_24 : decode cX4_setMetric 24 = .ok (.aload_n 0, 1) := by decide +kernel
theorem dX4_setMetric_25 : decode cX4_setMetric 25 = .ok (.getfield 14, 3) := by decide +kernel
theorem dX4_setMetric_28 : decode cX4_setMetric 28 = .ok (.iload_n 1, 1) := by decide +kernel
theorem dX4_setMetric_29 : decode cX4_setMetric 29 = .ok (.iload_n 2, 1) := by decide +kernel
theorem dX4_setMetric_30 : decode cX4_setMetric 30 = .ok (.invokevirtual 75, 3) := by decide +kernel
theorem dX4_setMetric_33 : decode cX4_setMetric 33 = .ok (.ireturn, 1) := by decide +kernel
set_option maxRecDepth 20000 in
theorem ggX4_routeLength_X4_routeError : GoodIn wsX4_routeLength wsX4_routeError := goodIn_r _ [7, 1, 8, 9, 10, 6, 11, 12, 13, 14, 15, 16, 17, 18, 19, 20, 21, 22, 23, 24, 25, 26, 27, 28, 29, 30, 31, 32, 33, 34, 35, 36, 37, 38] (by decide +kernel) (by decide +kernel)
set_option maxRecDepth 20000 in
theorem gX4_routeLength_X4_routeError : GoodIn wsX4_routeLength (wsV RX4 78 RX4 yX4_routeError wsX4_routeError) := goodIn_app (goodIn_of _ (by decide +kernel)) ggX4_routeLength_X4_routeError
set_option maxRecDepth 20000 in
theorem ggX4_routeLength_X4_slotOf : GoodIn wsX4_routeLength wsX4_slotOf := goodIn_r _ [20] (by decide +kernel) (by decide +kernel)
set_option maxRecDepth 20000 in
theorem gX4_routeLength_X4_slotOf : GoodIn wsX4_routeLength (va_wsS RX4 84 yX4_slotOf wsX4_slotOf) := goodIn_app (goodIn_of _ (by decide +kernel)) ggX4_routeLength_X4_slotOf
theorem dX4_routeLength_0 : decode cX4_routeLength 0 = .ok (.aload_n 0, 1) := by decide +kernel
theorem dX4_routeLength_1 : decode cX4_routeLength 1 = .ok (.iload_n 1, 1) := by decide +kernel
theorem dX4_routeLength_2 : decode cX4_routeLength 2 = .ok (.iload_n 2, 1) := by decide +kernel
theorem dX4_routeLength_3 : decode cX4_routeLength 3 = .ok (.invokevirtual 78, 3) := by decide +kernel
theorem dX4_routeLength_6 : decode cX4_routeLength 6 = .ok (.istore_n 3, 1) := by decide +kernel
theorem dX4_routeLength_7 : decode cX4_routeLength 7 = .ok (.iload_n 3, 1) := by decide +kernel
theorem dX4_routeLength_8 : decode cX4_routeLength 8 = .ok (.ifCond .eq 5, 3) := by decide +kernel
theorem dX4_routeLength_11 : decode cX4_routeLength 11 = .ok (.iload_n 3, 1) := by decide +kernel
theorem dX4_routeLength_12 : decode cX4_routeLength 12 = .ok (.ireturn, 1) := by decide +kernel
theorem dX4_routeLength_13 : decode cX4_routeLength 13 = .ok (.aload_n 0, 1) := by decide +kernel
theorem dX4_routeLength_14 : decode cX4_routeLength 14 = .ok (.getfield 14, 3) := by decide +kernel
theorem dX4_routeLength_17 : decode cX4_routeLength 17 = .ok (.getfield 81, 3) := by decide +kernel
theorem dX4_routeLength_20 : decode cX4_routeLength 20 = .ok (.iload_n 1, 1) := by decide +kernel
theorem dX4_routeLength_21 : decode cX4_routeLength 21 = .ok (.iload_n 2, 1) := by decide +kernel
theorem dX4_routeLength_22 : decode cX4_routeLength 22 = .ok (.invokestatic 84, 3) := by decide +kernel
theorem dX4_routeLength_25 : decode cX4_routeLength 25 = .ok (.iaload, 1) := by decide +kernel
theorem dX4_routeLength_26 : decode cX4_routeLength 26 = .ok (.ireturn, 1) := by decide +kernel
set_option maxRecDepth 20000 in
theorem ggX4_routeLink_X4_routeError : GoodIn wsX4_routeLink wsX4_routeError := goodIn_r _ [8, 1, 9, 10, 11, 7, 12, 13, 14, 15, 16, 17, 18, 19, 20, 21, 22, 23, 24, 25, 26, 27, 28, 29, 30, 31, 32, 33, 34, 35, 36, 37, 38, 39] (by decide +kernel) (by decide +kernel)
set_option maxRecDepth 20000 in
theorem gX4_routeLink_X4_routeError : GoodIn wsX4_routeLink (wsV RX4 78 RX4 yX4_routeError wsX4_routeError) := goodIn_app (goodIn_of _ (by decide +kernel)) ggX4_routeLink_X4_routeError
set_option maxRecDepth 20000 in
theorem ggX4_routeLink_X4_slotOf : GoodIn wsX4_routeLink wsX4_slotOf := goodIn_r _ [21] (by decide +kernel) (by decide +kernel)
set_option maxRecDepth 20000 in
theorem gX4_routeLink_X4_slotOf : GoodIn wsX4_routeLink (va_wsS RX4 84 yX4_slotOf wsX4_slotOf) := goodIn_app (goodIn_of _ (by decide +kernel)) ggX4_routeLink_X4_slotOf
theorem dX4_routeLink_0 : decode cX4_routeLink 0 = .ok (.aload_n 0, 1) := by decide +kernel
theorem dX4_routeLink_1 : decode cX4_routeLink 1 = .ok (.iload_n 1, 1) := by decide +kernel
theorem dX4_routeLink_2 : decode cX4_routeLink 2 = .ok (.iload_n 2, 1) := by decide +kernel
theorem dX4_routeLink_3 : decode cX4_routeLink 3 = .ok (.invokevirtual 78, 3) := by decide +kernel
theorem dX4_routeLink_6 : decode cX4_routeLink 6 = .ok (.istore 4, 2) := by decide +kernel
theorem dX4_routeLink_8 : decode cX4_routeLink 8 = .ok (.iload 4, 2) := by decide +kernel
theorem dX4_routeLink_10 : decode cX4_routeLink 10 = .ok (.ifCond .eq 6, 3) := by decide +kernel
theorem dX4_routeLink_13 : decode cX4_routeLink 13 = .ok (.iload 4, 2) := by decide +kernel
theorem dX4_routeLink_15 : decode cX4_routeLink 15 = .ok (.ireturn, 1) := by decide +kernel
theorem dX4_routeLink_16 : decode cX4_routeLink 16 = .ok (.iload_n 1, 1) := by decide +kernel
theorem dX4_routeLink_17 : decode cX4_routeLink 17 = .ok (.iload_n 2, 1) := by decide +kernel
theorem dX4_routeLink_18 : decode cX4_routeLink 18 = .ok (.invokestatic 84, 3) := by decide +kernel
theorem dX4_routeLink_21 : decode cX4_routeLink 21 = .ok (.istore 5, 2) := by decide +kernel
theorem dX4_routeLink_23 : decode cX4_routeLink 23 = .ok (.iload_n 3, 1) := by decide +kernel
theorem dX4_routeLink_24 : decode cX4_routeLink 24 = .ok (.ifCond .lt 17, 3) := by decide +kernel
theorem dX4_routeLink_27 : decode cX4_routeLink 27 = .ok (.iload_n 3, 1) := by decide +kernel
theorem dX4_routeLink_28 : decode cX4_routeLink 28 = .ok (.aload_n 0, 1) := by decide +kernel
theorem dX4_routeLink_29 : decode cX4_routeLink 29 = .ok (.getfield 14, 3) := by decide +kernel
theorem dX4_routeLink_32 : decode cX4_routeLink 32 = .ok (.getfield 81, 3) := by decide +kernel
theorem dX4_routeLink_35 : decode cX4_routeLink 35 = .ok (.iload 5, 2) := by decide +kernel
theorem dX4_routeLink_37 : decode cX4_routeLink 37 = .ok (.iaload, 1) := by decide +kernel
theorem dX4_routeLink_38 : decode cX4_routeLink 38 = .ok (.if_icmp .lt 6, 3) := by decide +kernel
theorem dX4_routeLink_41 : decode cX4_routeLink 41 = .ok (.bipush (-4), 2) := by decide +kernel
theorem dX4_routeLink_43 : decode cX4_routeLink 43 = .ok (.ireturn, 1) := by decide +kernel
theorem dX4_routeLink_44 : decode cX4_routeLink 44 = .ok (.aload_n 0, 1) := by decide +kernel
theorem dX4_routeLink_45 : decode cX4_routeLink 45 = .ok (.getfield 14, 3) := by decide +kernel
theorem dX4_routeLink_48 : decode cX4_routeLink 48 = .ok (.getfield 87, 3) := by decide +kernel
theorem dX4_routeLink_51 : decode cX4_routeLink 51 = .ok (.iload 5, 2) := by decide +kernel
theorem dX4_routeLink_53 : decode cX4_routeLink 53 = .ok (.aaload, 1) := by decide +kernel
theorem dX4_routeLink_54 : decode cX4_routeLink 54 = .ok (.iload_n 3, 1) := by decide +kernel
theorem dX4_routeLink_55 : decode cX4_routeLink 55 = .ok (.iaload, 1) := by decide +kernel
theorem dX4_routeLink_56 : decode cX4_routeLink 56 = .ok (.ireturn, 1) := by decide +kernel
set_option maxRecDepth 20000 in
theorem ggX4_setDemand_X4_pairError : GoodIn wsX4_setDemand wsX4_pairError := goodIn_r _ [6, 7, 8, 9, 10, 11, 12, 13, 17, 18, 19, 20, 21, 22, 23, 24, 25, 26, 27, 28, 29] (by decide +kernel) (by decide +kernel)
set_option maxRecDepth 20000 in
theorem gX4_setDemand_X4_pairError : GoodIn wsX4_setDemand (wsV RX4 60 RX4 yX4_pairError wsX4_pairError) := goodIn_app (goodIn_of _ (by decide +kernel)) ggX4_setDemand_X4_pairError
set_option maxRecDepth 20000 in
theorem ggX4_setDemand_X4_slotOf : GoodIn wsX4_setDemand wsX4_slotOf := goodIn_r _ [16] (by decide +kernel) (by decide +kernel)
set_option maxRecDepth 20000 in
theorem gX4_setDemand_X4_slotOf : GoodIn wsX4_setDemand (va_wsS RX4 84 yX4_slotOf wsX4_slotOf) := goodIn_app (goodIn_of _ (by decide +kernel)) ggX4_setDemand_X4_slotOf
theorem dX4_setDemand_0 : decode cX4_setDemand 0 = .ok (.aload_n 0, 1) := by decide +kernel
theorem dX4_setDemand_1 : decode cX4_setDemand 1 = .ok (.iload_n 1, 1) := by decide +kernel
theorem dX4_setDemand_2 : decode cX4_setDemand 2 = .ok (.iload_n 2, 1) := by decide +kernel
theorem dX4_setDemand_3 : decode cX4_setDemand 3 = .ok (.invokevirtual 60, 3) := by decide +kernel
theorem dX4_setDemand_6 : decode cX4_setDemand 6 = .ok (.istore 4, 2) := by decide +kernel
theorem dX4_setDemand_8 : decode cX4_setDemand 8 = .ok (.iload 4, 2) := by decide +kernel
theorem dX4_setDemand_10 : decode cX4_setDemand 10 = .ok (.ifCond .eq 6, 3) := by decide +kernel
theorem dX4_setDemand_13 : decode cX4_setDemand 13 = .ok (.iload 4, 2) := by decide +kernel
theorem dX4_setDemand_15 : decode cX4_setDemand 15 = .ok (.ireturn, 1) := by decide +kernel
theorem dX4_setDemand_16 : decode cX4_setDemand 16 = .ok (.iload_n 3, 1) := by decide +kernel
theorem dX4_setDemand_17 : decode cX4_setDemand 17 = .ok (.ifCond .lt 10, 3) := by decide +kernel
theorem dX4_setDemand_20 : decode cX4_setDemand 20 = .ok (.iload_n 3, 1) := by decide +kernel
theorem dX4_setDemand_21 : decode cX4_setDemand 21 = .ok (.sipush 9999, 3) := by decide +kernel
theorem dX4_setDemand_24 : decode cX4_setDemand 24 = .ok (.if_icmp .le 6, 3) := by decide +kernel
theorem dX4_setDemand_27 : decode cX4_setDemand 27 = .ok (.bipush (-4), 2) := by decide +kernel
theorem dX4_setDemand_29 : decode cX4_setDemand 29 = .ok (.ireturn, 1) := by decide +kernel
theorem dX4_setDemand_30 : decode cX4_setDemand 30 = .ok (.iload_n 1, 1) := by decide +kernel
theorem dX4_setDemand_31 : decode cX4_setDemand 31 = .ok (.iload_n 2, 1) := by decide +kernel
theorem dX4_setDemand_32 : decode cX4_setDemand 32 = .ok (.invokestatic 84, 3) := by decide +kernel
theorem dX4_setDemand_35 : decode cX4_setDemand 35 = .ok (.istore 5, 2) := by decide +kernel
theorem dX4_setDemand_37 : decode cX4_setDemand 37 = .ok (.aload_n 0, 1) := by decide +kernel
theorem dX4_setDemand_38 : decode cX4_setDemand 38 = .ok (.getfield 18, 3) := by decide +kernel
theorem dX4_setDemand_41 : decode cX4_setDemand 41 = .ok (.iload 5, 2) := by decide +kernel
theorem dX4_setDemand_43 : decode cX4_setDemand 43 = .ok (.iaload, 1) := by decide +kernel
theorem dX4_setDemand_44 : decode cX4_setDemand 44 = .ok (.istore 6, 2) := by decide +kernel
theorem dX4_setDemand_46 : decode cX4_setDemand 46 = .ok (.aload_n 0, 1) := by decide +kernel
theorem dX4_setDemand_47 : decode cX4_setDemand 47 = .ok (.getfield 18, 3) := by decide +kernel
theorem dX4_setDemand_50 : decode cX4_setDemand 50 = .ok (.iload 5, 2) := by decide +kernel
theorem dX4_setDemand_52 : decode cX4_setDemand 52 = .ok (.iload_n 3, 1) := by decide +kernel
theorem dX4_setDemand_53 : decode cX4_setDemand 53 = .ok (.iastore, 1) := by decide +kernel
theorem dX4_setDemand_54 : decode cX4_setDemand 54 = .ok (.iload 6, 2) := by decide +kernel
theorem dX4_setDemand_56 : decode cX4_setDemand 56 = .ok (.ireturn, 1) := by decide +kernel
set_option maxRecDepth 20000 in
theorem ggX4_carriedLoad_X3_hasLink : GoodIn wsX4_carriedLoad wsX3_hasLink := goodIn_r _ [7, 8, 24, 25, 26, 27, 28, 29, 30, 31] (by decide +kernel) (by decide +kernel)
set_option maxRecDepth 20000 in
theorem gX4_carriedLoad_X3_hasLink : GoodIn wsX4_carriedLoad (wsV RX4 72 RX3 yX3_hasLink wsX3_hasLink) := goodIn_app (goodIn_of _ (by decide +kernel)) ggX4_carriedLoad_X3_hasLink
set_option maxRecDepth 20000 in
theorem ggX4_carriedLoad_X3_loadOf : GoodIn wsX4_carriedLoad wsX3_loadOf := goodIn_r _ [12, 13, 14, 15, 6, 16, 17, 18, 24, 25, 26, 27, 28, 29, 30, 31] (by decide +kernel) (by decide +kernel)
set_option maxRecDepth 20000 in
theorem gX4_carriedLoad_X3_loadOf : GoodIn wsX4_carriedLoad (wsV RX4 91 RX3 yX3_loadOf wsX3_loadOf) := goodIn_app (goodIn_of _ (by decide +kernel)) ggX4_carriedLoad_X3_loadOf
theorem dX4_carriedLoad_0 : decode cX4_carriedLoad 0 = .ok (.aload_n 0, 1) := by decide +kernel
theorem dX4_carriedLoad_1 : decode cX4_carriedLoad 1 = .ok (.getfield 14, 3) := by decide +kernel
theorem dX4_carriedLoad_4 : decode cX4_carriedLoad 4 = .ok (.iload_n 1, 1) := by decide +kernel
theorem dX4_carriedLoad_5 : decode cX4_carriedLoad 5 = .ok (.invokevirtual 72, 3) := by decide +kernel
theorem dX4_carriedLoad_8 : decode cX4_carriedLoad 8 = .ok (.ifCond .eq 18, 3) := by decide +kernel
theorem dX4_carriedLoad_11 : decode cX4_carriedLoad 11 = .ok (.aload_n 0, 1) := by decide +kernel
theorem dX4_carriedLoad_12 : decode cX4_carriedLoad 12 = .ok (.getfield 14, 3) := by decide +kernel
theorem dX4_carriedLoad_15 : decode cX4_carriedLoad 15 = .ok (.iload_n 1, 1) := by decide +kernel
theorem dX4_carriedLoad_16 : decode cX4_carriedLoad 16 = .ok (.aload_n 0, 1) := by decide +kernel
theorem dX4_carriedLoad_17 : decode cX4_carriedLoad 17 = .ok (.getfield 18, 3) := by decide +kernel
theorem dX4_carriedLoad_20 : decode cX4_carriedLoad 20 = .ok (.invokevirtual 91, 3) := by decide +kernel
theorem dX4_carriedLoad_23 : decode cX4_carriedLoad 23 = .ok (.goto 5, 3) := by decide +kernel
theorem dX4_carriedLoad_26 : decode cX4_carriedLoad 26 = .ok (.bipush (-3), 2) := by decide +kernel
theorem dX4_carriedLoad_28 : decode cX4_carriedLoad 28 = .ok (.ireturn, 1) := by decide +kernel
set_option maxRecDepth 20000 in
theorem ggX4_measure_X2_take : GoodIn wsX4_measure wsX2_take := goodIn_r _ [8, 9, 10, 11, 12, 13, 14, 15, 16, 17, 18, 19, 20, 21, 22, 23, 24, 25, 26, 27, 28, 29, 30, 31, 41, 42, 43, 44, 45, 46, 47, 48, 49, 50, 51, 52] (by decide +kernel) (by decide +kernel)
set_option maxRecDepth 20000 in
theorem gX4_measure_X2_take : GoodIn wsX4_measure (wsV RX4 95 RX2 yX2_take wsX2_take) := goodIn_app (goodIn_of _ (by decide +kernel)) ggX4_measure_X2_take
set_option maxRecDepth 20000 in
theorem ggX4_measure_X2_sumOfOutTotals : GoodIn wsX4_measure wsX2_sumOfOutTotals := goodIn_r _ [35, 11, 49, 50, 51, 52] (by decide +kernel) (by decide +kernel)
set_option maxRecDepth 20000 in
theorem gX4_measure_X2_sumOfOutTotals : GoodIn wsX4_measure (wsV RX4 99 RX2 yX2_sumOfOutTotals wsX2_sumOfOutTotals) := goodIn_app (goodIn_of _ (by decide +kernel)) ggX4_measure_X2_sumOfOutTotals
theorem dX4_measure_0 : decode cX4_measure 0 = .ok (.aload_n 0, 1) := by decide +kernel
theorem dX4_measure_1 : decode cX4_measure 1 = .ok (.getfield 25, 3) := by decide +kernel
theorem dX4_measure_4 : decode cX4_measure 4 = .ok (.aload_n 0, 1) := by decide +kernel
theorem dX4_measure_5 : decode cX4_measure 5 = .ok (.getfield 14, 3) := by decide +kernel
theorem dX4_measure_8 : decode cX4_measure 8 = .ok (.aload_n 0, 1) := by decide +kernel
theorem dX4_measure_9 : decode cX4_measure 9 = .ok (.getfield 18, 3) := by decide +kernel
theorem dX4_measure_12 : decode cX4_measure 12 = .ok (.invokevirtual 95, 3) := by decide +kernel
theorem dX4_measure_15 : decode cX4_measure 15 = .ok (.aload_n 0, 1) := by decide +kernel
theorem dX4_measure_16 : decode cX4_measure 16 = .ok (.getfield 25, 3) := by decide +kernel
theorem dX4_measure_19 : decode cX4_measure 19 = .ok (.invokevirtual 99, 3) := by decide +kernel
theorem dX4_measure_22 : decode cX4_measure 22 = .ok (.ireturn, 1) := by decide +kernel
set_option maxRecDepth 20000 in
theorem ggX4_setMeasuredLoad_X3_hasLink : GoodIn wsX4_setMeasuredLoad wsX3_hasLink := goodIn_r _ [9, 10, 20, 21, 22, 23, 24, 25, 26, 27] (by decide +kernel) (by decide +kernel)
set_option maxRecDepth 20000 in
theorem gX4_setMeasuredLoad_X3_hasLink : GoodIn wsX4_setMeasuredLoad (wsV RX4 72 RX3 yX3_hasLink wsX3_hasLink) := goodIn_app (goodIn_of _ (by decide +kernel)) ggX4_setMeasuredLoad_X3_hasLink
theorem dX4_setMeasuredLoad_0 : decode cX4_setMeasuredLoad 0 = .ok (.aload_n 0, 1) := by decide +kernel
theorem dX4_setMeasuredLoad_1 : decode cX4_setMeasuredLoad 1 = .ok (.getfield 14, 3) := by decide +kernel
theorem dX4_setMeasuredLoad_4 : decode cX4_setMeasuredLoad 4 = .ok (.iload_n 1, 1) := by decide +kernel
theorem dX4_setMeasuredLoad_5 : decode cX4_setMeasuredLoad 5 = .ok (.invokevirtual 72, 3) := by decide +kernel
theorem dX4_setMeasuredLoad_8 : decode cX4_setMeasuredLoad 8 = .ok (.ifCond .ne 6, 3) := by decide +kernel
theorem dX4_setMeasuredLoad_11 : decode cX4_setMeasuredLoad 11 = .ok (.bipush (-3), 2) := by decide +kernel
theorem dX4_setMeasuredLoad_13 : decode cX4_setMeasuredLoad 13 = .ok (.ireturn, 1) := by decide +kernel
theorem dX4_setMeasuredLoad_14 : decode cX4_setMeasuredLoad 14 = .ok (.iload_n 2, 1) := by decide +kernel
theorem dX4_setMeasuredLoad_15 : decode cX4_setMeasuredLoad 15 = .ok (.ifCond .lt 9, 3) := by decide +kernel
theorem dX4_setMeasuredLoad_18 : decode cX4_setMeasuredLoad 18 = .ok (.iload_n 2, 1) := by decide +kernel
theorem dX4_setMeasuredLoad_19 : decode cX4_setMeasuredLoad 19 = .ok (.ldc 103, 2) := by decide +kernel
theorem dX4_setMeasuredLoad_21 : decode cX4_setMeasuredLoad 21 = .ok (.if_icmp .le 6, 3) := by decide +kernel
theorem dX4_setMeasuredLoad_24 : decode cX4_setMeasuredLoad 24 = .ok (.bipush (-4), 2) := by decide +kernel
theorem dX4_setMeasuredLoad_26 : decode cX4_setMeasuredLoad 26 = .ok (.ireturn, 1) := by decide +kernel
theorem dX4_setMeasuredLoad_27 : decode cX4_setMeasuredLoad 27 = .ok (.aload_n 0, 1) := by decide +kernel
theorem dX4_setMeasuredLoad_28 : decode cX4_setMeasuredLoad 28 = .ok (.getfield 25, 3) := by decide +kernel
theorem dX4_setMeasuredLoad_31 : decode cX4_setMeasuredLoad 31 = .ok (.getfield 104, 3) := by decide +kernel
theorem dX4_setMeasuredLoad_34 : decode cX4_setMeasuredLoad 34 = .ok (.iload_n 1, 1) := by decide +kernel
theorem dX4_setMeasuredLoad_35 : decode cX4_setMeasuredLoad 35 = .ok (.iaload, 1) := by decide +kernel
theorem dX4_setMeasuredLoad_36 : decode cX4_setMeasuredLoad 36 = .ok (.istore_n 3, 1) := by decide +kernel
theorem dX4_setMeasuredLoad_37 : decode cX4_setMeasuredLoad 37 = .ok (.aload_n 0, 1) := by decide +kernel
theorem dX4_setMeasuredLoad_38 : decode cX4_setMeasuredLoad 38 = .ok (.getfield 25, 3) := by decide +kernel
theorem dX4_setMeasuredLoad_41 : decode cX4_setMeasuredLoad 41 = .ok (.getfield 104, 3) := by decide +kernel
theorem dX4_setMeasuredLoad_44 : decode cX4_setMeasuredLoad 44 = .ok (.iload_n 1, 1) := by decide +kernel
theorem dX4_setMeasuredLoad_45 : decode cX4_setMeasuredLoad 45 = .ok (.iload_n 2, 1) := by decide +kernel
theorem dX4_setMeasuredLoad_46 : decode cX4_setMeasuredLoad 46 = .ok (.iastore, 1) := by decide +kernel
theorem dX4_setMeasuredLoad_47 : decode cX4_setMeasuredLoad 47 = .ok (.iload_n 3, 1) := by decide +kernel
theorem dX4_setMeasuredLoad_48 : decode cX4_setMeasuredLoad 48 = .ok (.ireturn, 1) := by decide +kernel
set_option maxRecDepth 20000 in
theorem ggX4_measuredLoad_X3_hasLink : GoodIn wsX4_measuredLoad wsX3_hasLink := goodIn_r _ [8, 9, 19, 20, 21, 22, 23, 24, 25, 26] (by decide +kernel) (by decide +kernel)
set_option maxRecDepth 20000 in
theorem gX4_measuredLoad_X3_hasLink : GoodIn wsX4_measuredLoad (wsV RX4 72 RX3 yX3_hasLink wsX3_hasLink) := goodIn_app (goodIn_of _ (by decide +kernel)) ggX4_measuredLoad_X3_hasLink
theorem dX4_measuredLoad_0 : decode cX4_measuredLoad 0 = .ok (.aload_n 0, 1) := by decide +kernel
theorem dX4_measuredLoad_1 : decode cX4_measuredLoad 1 = .ok (.getfield 14, 3) := by decide +kernel
theorem dX4_measuredLoad_4 : decode cX4_measuredLoad 4 = .ok (.iload_n 1, 1) := by decide +kernel
theorem dX4_measuredLoad_5 : decode cX4_measuredLoad 5 = .ok (.invokevirtual 72, 3) := by decide +kernel
theorem dX4_measuredLoad_8 : decode cX4_measuredLoad 8 = .ok (.ifCond .eq 15, 3) := by decide +kernel
theorem dX4_measuredLoad_11 : decode cX4_measuredLoad 11 = .ok (.aload_n 0, 1) := by decide +kernel
theorem dX4_measuredLoad_12 : decode cX4_measuredLoad 12 = .ok (.getfield 25, 3) := by decide +kernel
theorem dX4_measuredLoad_15 : decode cX4_measuredLoad 15 = .ok (.getfield 104, 3) := by decide +kernel
theorem dX4_measuredLoad_18 : decode cX4_measuredLoad 18 = .ok (.iload_n 1, 1) := by decide +kernel
theorem dX4_measuredLoad_19 : decode cX4_measuredLoad 19 = .ok (.iaload, 1) := by decide +kernel
theorem dX4_measuredLoad_20 : decode cX4_measuredLoad 20 = .ok (.goto 5, 3) := by decide +kernel
theorem dX4_measuredLoad_23 : decode cX4_measuredLoad 23 = .ok (.bipush (-3), 2) := by decide +kernel
theorem dX4_measuredLoad_25 : decode cX4_measuredLoad 25 = .ok (.ireturn, 1) := by decide +kernel
set_option maxRecDepth 20000 in
theorem ggX4_outTotal_X3_hasNode : GoodIn wsX4_outTotal wsX3_hasNode := goodIn_r _ [8, 9, 19, 20, 21, 22, 23, 24, 25, 26] (by decide +kernel) (by decide +kernel)
set_option maxRecDepth 20000 in
theorem gX4_outTotal_X3_hasNode : GoodIn wsX4_outTotal (wsV RX4 107 RX3 yX3_hasNode wsX3_hasNode) := goodIn_app (goodIn_of _ (by decide +kernel)) ggX4_outTotal_X3_hasNode
theorem dX4_outTotal_0 : decode cX4_outTotal 0 = .ok (.aload_n 0, 1) := by decide +kernel
theorem dX4_outTotal_1 : decode cX4_outTotal 1 = .ok (.getfield 14, 3) := by decide +kernel
theorem dX4_outTotal_4 : decode cX4_outTotal 4 = .ok (.iload_n 1, 1) := by decide +kernel
theorem dX4_outTotal_5 : decode cX4_outTotal 5 = .ok (.invokevirtual 107, 3) := by decide +kernel
theorem dX4_outTotal_8 : decode cX4_outTotal 8 = .ok (.ifCond .eq 15, 3) := by decide +kernel
theorem dX4_outTotal_11 : decode cX4_outTotal 11 = .ok (.aload_n 0, 1) := by decide +kernel
theorem dX4_outTotal_12 : decode cX4_outTotal 12 = .ok (.getfield 25, 3) := by decide +kernel
theorem dX4_outTotal_15 : decode cX4_outTotal 15 = .ok (.getfield 110, 3) := by decide +kernel
theorem dX4_outTotal_18 : decode cX4_outTotal 18 = .ok (.iload_n 1, 1) := by decide +kernel
theorem dX4_outTotal_19 : decode cX4_outTotal 19 = .ok (.iaload, 1) := by decide +kernel
theorem dX4_outTotal_20 : decode cX4_outTotal 20 = .ok (.goto 4, 3) := by decide +kernel
theorem dX4_outTotal_23 : decode cX4_outTotal 23 = .ok (.iconst (-1), 1) := by decide +kernel
theorem dX4_outTotal_24 : decode cX4_outTotal 24 = .ok (.ireturn, 1) := by decide +kernel
set_option maxRecDepth 20000 in
theorem ggX4_inTotal_X3_hasNode : GoodIn wsX4_inTotal wsX3_hasNode := goodIn_r _ [8, 9, 19, 20, 21, 22, 23, 24, 25, 26] (by decide +kernel) (by decide +kernel)
set_option maxRecDepth 20000 in
theorem gX4_inTotal_X3_hasNode : GoodIn wsX4_inTotal (wsV RX4 107 RX3 yX3_hasNode wsX3_hasNode) := goodIn_app (goodIn_of _ (by decide +kernel)) ggX4_inTotal_X3_hasNode
theorem dX4_inTotal_0 : decode cX4_inTotal 0 = .ok (.aload_n 0, 1) := by decide +kernel
theorem dX4_inTotal_1 : decode cX4_inTotal 1 = .ok (.getfield 14, 3) := by decide +kernel
theorem dX4_inTotal_4 : decode cX4_inTotal 4 = .ok (.iload_n 1, 1) := by decide +kernel
theorem dX4_inTotal_5 : decode cX4_inTotal 5 = .ok (.invokevirtual 107, 3) := by decide +kernel
theorem dX4_inTotal_8 : decode cX4_inTotal 8 = .ok (.ifCond .eq 15, 3) := by decide +kernel
theorem dX4_inTotal_11 : decode cX4_inTotal 11 = .ok (.aload_n 0, 1) := by decide +kernel
theorem dX4_inTotal_12 : decode cX4_inTotal 12 = .ok (.getfield 25, 3) := by decide +kernel
theorem dX4_inTotal_15 : decode cX4_inTotal 15 = .ok (.getfield 113, 3) := by decide +kernel
theorem dX4_inTotal_18 : decode cX4_inTotal 18 = .ok (.iload_n 1, 1) := by decide +kernel
theorem dX4_inTotal_19 : decode cX4_inTotal 19 = .ok (.iaload, 1) := by decide +kernel
theorem dX4_inTotal_20 : decode cX4_inTotal 20 = .ok (.goto 4, 3) := by decide +kernel
theorem dX4_inTotal_23 : decode cX4_inTotal 23 = .ok (.iconst (-1), 1) := by decide +kernel
theorem dX4_inTotal_24 : decode cX4_inTotal 24 = .ok (.ireturn, 1) := by decide +kernel
set_option maxRecDepth 20000 in
theorem ggX4_measurePair_X4_routeError : GoodIn wsX4_measurePair wsX4_routeError := goodIn_r _ [8, 9, 10, 11, 12, 7, 13, 14, 15, 16, 17, 18, 19, 20, 21, 22, 23, 24, 25, 26, 27, 28, 29, 30, 31, 32, 37, 38, 39, 40, 41, 42, 43, 44] (by decide +kernel) (by decide +kernel)
set_option maxRecDepth 20000 in
theorem gX4_measurePair_X4_routeError : GoodIn wsX4_measurePair (wsV RX4 78 RX4 yX4_routeError wsX4_routeError) := goodIn_app (goodIn_of _ (by decide +kernel)) ggX4_measurePair_X4_routeError
set_option maxRecDepth 20000 in
theorem ggX4_measurePair_X4_slotOf : GoodIn wsX4_measurePair wsX4_slotOf := goodIn_r _ [22] (by decide +kernel) (by decide +kernel)
set_option maxRecDepth 20000 in
theorem gX4_measurePair_X4_slotOf : GoodIn wsX4_measurePair (va_wsS RX4 84 yX4_slotOf wsX4_slotOf) := goodIn_app (goodIn_of _ (by decide +kernel)) ggX4_measurePair_X4_slotOf
theorem dX4_measurePair_0 : decode cX4_measurePair 0 = .ok (.aload_n 0, 1) := by decide +kernel
theorem dX4_measurePair_1 : decode cX4_measurePair 1 = .ok (.iload_n 1, 1) := by decide +kernel
theorem dX4_measurePair_2 : decode cX4_measurePair 2 = .ok (.iload_n 2, 1) := by decide +kernel
theorem dX4_measurePair_3 : decode cX4_measurePair 3 = .ok (.invokevirtual 78, 3) := by decide +kernel
theorem dX4_measurePair_6 : decode cX4_measurePair 6 = .ok (.istore_n 3, 1) := by decide +kernel
theorem dX4_measurePair_7 : decode cX4_measurePair 7 = .ok (.iload_n 3, 1) := by decide +kernel
theorem dX4_measurePair_8 : decode cX4_measurePair 8 = .ok (.ifCond .eq 5, 3) := by decide +kernel
theorem dX4_measurePair_11 : decode cX4_measurePair 11 = .ok (.iload_n 3, 1) := by decide +kernel
theorem dX4_measurePair_12 : decode cX4_measurePair 12 = .ok (.ireturn, 1) := by decide +kernel
theorem dX4_measurePair_13 : decode cX4_measurePair 13 = .ok (.iload_n 1, 1) := by decide +kernel
theorem dX4_measurePair_14 : decode cX4_measurePair 14 = .ok (.iload_n 2, 1) := by decide +kernel
theorem dX4_measurePair_15 : decode cX4_measurePair 15 = .ok (.invokestatic 84, 3) := by decide +kernel
theorem dX4_measurePair_18 : decode cX4_measurePair 18 = .ok (.istore 4, 2) := by decide +kernel
theorem dX4_measurePair_20 : decode cX4_measurePair 20 = .ok (.aload_n 0, 1) := by decide +kernel
theorem dX4_measurePair_21 : decode cX4_measurePair 21 = .ok (.getfield 25, 3) := by decide +kernel
theorem dX4_measurePair_24 : decode cX4_measurePair 24 = .ok (.getfield 116, 3) := by decide +kernel
theorem dX4_measurePair_27 : decode cX4_measurePair 27 = .ok (.iload 4, 2) := by decide +kernel
theorem dX4_measurePair_29 : decode cX4_measurePair 29 = .ok (.aload_n 0, 1) := by decide +kernel
theorem dX4_measurePair_30 : decode cX4_measurePair 30 = .ok (.getfield 18, 3) := by decide +kernel
theorem dX4_measurePair_33 : decode cX4_measurePair 33 = .ok (.iload 4, 2) := by decide +kernel
theorem dX4_measurePair_35 : decode cX4_measurePair 35 = .ok (.iaload, 1) := by decide +kernel
theorem dX4_measurePair_36 : decode cX4_measurePair 36 = .ok (.iastore, 1) := by decide +kernel
theorem dX4_measurePair_37 : decode cX4_measurePair 37 = .ok (.aload_n 0, 1) := by decide +kernel
theorem dX4_measurePair_38 : decode cX4_measurePair 38 = .ok (.getfield 18, 3) := by decide +kernel
theorem dX4_measurePair_41 : decode cX4_measurePair 41 = .ok (.iload 4, 2) := by decide +kernel
theorem dX4_measurePair_43 : decode cX4_measurePair 43 = .ok (.iaload, 1) := by decide +kernel
theorem dX4_measurePair_44 : decode cX4_measurePair 44 = .ok (.ireturn, 1) := by decide +kernel
set_option maxRecDepth 20000 in
theorem ggX4_forgetPair_X4_pairError : GoodIn wsX4_forgetPair wsX4_pairError := goodIn_r _ [7, 8, 9, 10, 11, 12, 13, 14, 24, 25, 26, 27, 28, 33, 34, 35, 36, 37, 38, 39, 40] (by decide +kernel) (by decide +kernel)
set_option maxRecDepth 20000 in
theorem gX4_forgetPair_X4_pairError : GoodIn wsX4_forgetPair (wsV RX4 60 RX4 yX4_pairError wsX4_pairError) := goodIn_app (goodIn_of _ (by decide +kernel)) ggX4_forgetPair_X4_pairError
set_option maxRecDepth 20000 in
theorem ggX4_forgetPair_X4_slotOf : GoodIn wsX4_forgetPair wsX4_slotOf := goodIn_r _ [17] (by decide +kernel) (by decide +kernel)
set_option maxRecDepth 20000 in
theorem gX4_forgetPair_X4_slotOf : GoodIn wsX4_forgetPair (va_wsS RX4 84 yX4_slotOf wsX4_slotOf) := goodIn_app (goodIn_of _ (by decide +kernel)) ggX4_forgetPair_X4_slotOf
set_option maxRecDepth 20000 in
theorem ggX4_forgetPair_X2_hasPair : GoodIn wsX4_forgetPair wsX2_hasPair := goodIn_r _ [22, 23, 29, 30, 31, 32] (by decide +kernel) (by decide +kernel)
set_option maxRecDepth 20000 in
theorem gX4_forgetPair_X2_hasPair : GoodIn wsX4_forgetPair (wsV RX4 119 RX2 yX2_hasPair wsX2_hasPair) := goodIn_app (goodIn_of _ (by decide +kernel)) ggX4_forgetPair_X2_hasPair
theorem dX4_forgetPair_0 : decode cX4_forgetPair 0 = .ok (.aload_n 0, 1) := by decide +kernel
theorem dX4_forgetPair_1 : decode cX4_forgetPair 1 = .ok (.iload_n 1, 1) := by decide +kernel
theorem dX4_forgetPair_2 : decode cX4_forgetPair 2 = .ok (.iload_n 2, 1) := by decide +kernel
theorem dX4_forgetPair_3 : decode cX4_forgetPair 3 = .ok (.invokevirtual 60, 3) := by decide +kernel
theorem dX4_forgetPair_6 : decode cX4_forgetPair 6 = .ok (.istore_n 3, 1) := by decide +kernel
theorem dX4_forgetPair_7 : decode cX4_forgetPair 7 = .ok (.iload_n 3, 1) := by decide +kernel
theorem dX4_forgetPair_8 : decode cX4_forgetPair 8 = .ok (.ifCond .eq 5, 3) := by decide +kernel
theorem dX4_forgetPair_11 : decode cX4_forgetPair 11 = .ok (.iload_n 3, 1) := by decide +kernel
theorem dX4_forgetPair_12 : decode cX4_forgetPair 12 = .ok (.ireturn, 1) := by decide +kernel
theorem dX4_forgetPair_13 : decode cX4_forgetPair 13 = .ok (.iload_n 1, 1) := by decide +kernel
theorem dX4_forgetPair_14 : decode cX4_forgetPair 14 = .ok (.iload_n 2, 1) := by decide +kernel
theorem dX4_forgetPair_15 : decode cX4_forgetPair 15 = .ok (.invokestatic 84, 3) := by decide +kernel
theorem dX4_forgetPair_18 : decode cX4_forgetPair 18 = .ok (.istore 4, 2) := by decide +kernel
theorem dX4_forgetPair_20 : decode cX4_forgetPair 20 = .ok (.aload_n 0, 1) := by decide +kernel
theorem dX4_forgetPair_21 : decode cX4_forgetPair 21 = .ok (.getfield 25, 3) := by decide +kernel
theorem dX4_forgetPair_24 : decode cX4_forgetPair 24 = .ok (.iload 4, 2) := by decide +kernel
theorem dX4_forgetPair_26 : decode cX4_forgetPair 26 = .ok (.invokevirtual 119, 3) := by decide +kernel
theorem dX4_forgetPair_29 : decode cX4_forgetPair 29 = .ok (.ifCond .ne 6, 3) := by decide +kernel
theorem dX4_forgetPair_32 : decode cX4_forgetPair 32 = .ok (.bipush (-7), 2) := by decide +kernel
theorem dX4_forgetPair_34 : decode cX4_forgetPair 34 = .ok (.ireturn, 1) := by decide +kernel
theorem dX4_forgetPair_35 : decode cX4_forgetPair 35 = .ok (.aload_n 0, 1) := by decide +kernel
theorem dX4_forgetPair_36 : decode cX4_forgetPair 36 = .ok (.getfield 25, 3) := by decide +kernel
theorem dX4_forgetPair_39 : decode cX4_forgetPair 39 = .ok (.getfield 116, 3) := by decide +kernel
theorem dX4_forgetPair_42 : decode cX4_forgetPair 42 = .ok (.iload 4, 2) := by decide +kernel
theorem dX4_forgetPair_44 : decode cX4_forgetPair 44 = .ok (.iaload, 1) := by decide +kernel
theorem dX4_forgetPair_45 : decode cX4_forgetPair 45 = .ok (.istore 5, 2) := by decide +kernel
theorem dX4_forgetPair_47 : decode cX4_forgetPair 47 = .ok (.aload_n 0, 1) := by decide +kernel
theorem dX4_forgetPair_48 : decode cX4_forgetPair 48 = .ok (.getfield 25, 3) := by decide +kernel
theorem dX4_forgetPair_51 : decode cX4_forgetPair 51 = .ok (.getfield 116, 3) := by decide +kernel
theorem dX4_forgetPair_54 : decode cX4_forgetPair 54 = .ok (.iload 4, 2) := by decide +kernel
theorem dX4_forgetPair_56 : decode cX4_forgetPair 56 = .ok (.iconst (-1), 1) := by decide +kernel
theorem dX4_forgetPair_57 : decode cX4_forgetPair 57 = .ok (.iastore, 1) := by decide +kernel
theorem dX4_forgetPair_58 : decode cX4_forgetPair 58 = .ok (.iload 5, 2) := by decide +kernel
theorem dX4_forgetPair_60 : decode cX4_forgetPair 60 = .ok (.ireturn, 1) := by decide +kernel
set_option maxRecDepth 20000 in
theorem ggX4_rank_X0_solve : GoodIn wsX4_rank wsX0_solve := goodIn_r _ [10, 11, 12, 13, 14, 15, 9, 16, 17, 18, 19, 20, 21, 22, 23, 24, 25, 26, 27, 28, 29, 30, 31, 32, 33, 34, 35, 36, 37, 38, 39, 40, 41, 42, 43, 44, 45, 46, 47, 48, 49, 50, 51, 52, 53, 54, 55, 56, 57, 58, 59, 60, 61, 62, 63, 64, 65, 66, 67, 68, 69, 70, 71, 72, 86, 87, 88, 89, 90, 91, 92, 93, 78, 79, 80, 81, 82, 83, 84, 85, 94, 95, 96, 97] (by decide +kernel) (by decide +kernel)
set_option maxRecDepth 20000 in
theorem gX4_rank_X0_solve : GoodIn wsX4_rank (wsV RX4 122 RX0 yX0_solve wsX0_solve) := goodIn_app (goodIn_of _ (by decide +kernel)) ggX4_rank_X0_solve
theorem dX4_rank_0 : decode cX4_rank 0 = .ok (.aload_n 0, 1) := by decide +kernel
theorem dX4_rank_1 : decode cX4_rank 1 = .ok (.getfield 32, 3) := by decide +kernel
theorem dX4_rank_4 : decode cX4_rank 4 = .ok (.aload_n 0, 1) := by decide +kernel
theorem dX4_rank_5 : decode cX4_rank 5 = .ok (.getfield 14, 3) := by decide +kernel
theorem dX4_rank_8 : decode cX4_rank 8 = .ok (.aload_n 0, 1) := by decide +kernel
theorem dX4_rank_9 : decode cX4_rank 9 = .ok (.getfield 25, 3) := by decide +kernel
theorem dX4_rank_12 : decode cX4_rank 12 = .ok (.invokevirtual 122, 3) := by decide +kernel
theorem dX4_rank_15 : decode cX4_rank 15 = .ok (.aload_n 0, 1) := by decide +kernel
theorem dX4_rank_16 : decode cX4_rank 16 = .ok (.getfield 32, 3) := by decide +kernel
theorem dX4_rank_19 : decode cX4_rank 19 = .ok (.getfield 126, 3) := by decide +kernel
theorem dX4_rank_22 : decode cX4_rank 22 = .ok (.aload_n 0, 1) := by decide +kernel
theorem dX4_rank_23 : decode cX4_rank 23 = .ok (.getfield 32, 3) := by decide +kernel
theorem dX4_rank_26 : decode cX4_rank 26 = .ok (.getfield 129, 3) := by decide +kernel
theorem dX4_rank_29 : decode cX4_rank 29 = .ok (.iadd, 1) := by decide +kernel
theorem dX4_rank_30 : decode cX4_rank 30 = .ok (.ireturn, 1) := by decide +kernel
set_option maxRecDepth 20000 in
theorem ggX4_isConsistent_X0_solve : GoodIn wsX4_isConsistent wsX0_solve := goodIn_r _ [8, 9, 10, 11, 12, 13, 7, 14, 15, 16, 17, 18, 19, 20, 21, 22, 23, 24, 25, 26, 27, 28, 29, 30, 31, 32, 33, 34, 35, 36, 37, 38, 39, 40, 41, 42, 43, 44, 45, 46, 47, 48, 49, 50, 51, 52, 53, 54, 55, 56, 57, 58, 59, 60, 61, 62, 63, 64, 65, 66, 67, 68, 69, 70, 80, 81, 82, 83, 84, 85, 86, 87, 88, 89, 90, 91, 92, 93, 94, 95, 96, 97, 98, 99] (by decide +kernel) (by decide +kernel)
set_option maxRecDepth 20000 in
theorem gX4_isConsistent_X0_solve : GoodIn wsX4_isConsistent (wsV RX4 122 RX0 yX0_solve wsX0_solve) := goodIn_app (goodIn_of _ (by decide +kernel)) ggX4_isConsistent_X0_solve
set_option maxRecDepth 20000 in
theorem ggX4_isConsistent_X0_haveSolution : GoodIn wsX4_isConsistent wsX0_haveSolution := goodIn_r _ [74, 10, 52, 33, 88, 89, 90, 91, 92, 93, 94, 95] (by decide +kernel) (by decide +kernel)
set_option maxRecDepth 20000 in
theorem gX4_isConsistent_X0_haveSolution : GoodIn wsX4_isConsistent (wsV RX4 132 RX0 yX0_haveSolution wsX0_haveSolution) := goodIn_app (goodIn_of _ (by decide +kernel)) ggX4_isConsistent_X0_haveSolution
theorem dX4_isConsistent_0 : decode cX4_isConsistent 0 = .ok (.aload_n 0, 1) := by decide +kernel
theorem dX4_isConsistent_1 : decode cX4_isConsistent 1 = .ok (.getfield 32, 3) := by decide +kernel
theorem dX4_isConsistent_4 : decode cX4_isConsistent 4 = .ok (.aload_n 0, 1) := by decide +kernel
theorem dX4_isConsistent_5 : decode cX4_isConsistent 5 = .ok (.getfield 14, 3) := by decide +kernel
theorem dX4_isConsistent_8 : decode cX4_isConsistent 8 = .ok (.aload_n 0, 1) := by decide +kernel
theorem dX4_isConsistent_9 : decode cX4_isConsistent 9 = .ok (.getfield 25, 3) := by decide +kernel
theorem dX4_isConsistent_12 : decode cX4_isConsistent 12 = .ok (.invokevirtual 122, 3) := by decide +kernel
theorem dX4_isConsistent_15 : decode cX4_isConsistent 15 = .ok (.aload_n 0, 1) := by decide +kernel
theorem dX4_isConsistent_16 : decode cX4_isConsistent 16 = .ok (.getfield 32, 3) := by decide +kernel
theorem dX4_isConsistent_19 : decode cX4_isConsistent 19 = .ok (.invokevirtual 132, 3) := by decide +kernel
theorem dX4_isConsistent_22 : decode cX4_isConsistent 22 = .ok (.ifCond .eq 7, 3) := by decide +kernel
theorem dX4_isConsistent_25 : decode cX4_isConsistent 25 = .ok (.iconst 1, 1) := by decide +kernel
theorem dX4_isConsistent_26 : decode cX4_isConsistent 26 = .ok (.goto 4, 3) := by decide +kernel
theorem dX4_isConsistent_29 : decode cX4_isConsistent 29 = .ok (.iconst 0, 1) := by decide +kernel
theorem dX4_isConsistent_30 : decode cX4_isConsistent 30 = .ok (.ireturn, 1) := by decide +kernel
set_option maxRecDepth 20000 in
theorem ggX4_isIdentifiable_X4_routeError : GoodIn wsX4_isIdentifiable wsX4_routeError := goodIn_r _ [8, 2, 9, 10, 11, 7, 12, 13, 14, 15, 16, 17, 18, 19, 20, 21, 22, 23, 24, 25, 26, 101, 102, 103, 104, 105, 106, 107, 108, 109, 110, 111, 112, 113] (by decide +kernel) (by decide +kernel)
set_option maxRecDepth 20000 in
theorem gX4_isIdentifiable_X4_routeError : GoodIn wsX4_isIdentifiable (wsV RX4 78 RX4 yX4_routeError wsX4_routeError) := goodIn_app (goodIn_of _ (by decide +kernel)) ggX4_isIdentifiable_X4_routeError
set_option maxRecDepth 20000 in
theorem ggX4_isIdentifiable_X0_solve : GoodIn wsX4_isIdentifiable wsX0_solve := goodIn_r _ [31, 32, 33, 34, 35, 36, 30, 37, 38, 39, 40, 23, 24, 16, 25, 26, 41, 42, 43, 44, 45, 46, 47, 48, 49, 50, 51, 52, 53, 54, 55, 56, 57, 58, 59, 60, 61, 62, 63, 64, 65, 66, 67, 68, 69, 70, 71, 72, 73, 74, 75, 76, 77, 78, 79, 80, 81, 82, 83, 84, 85, 86, 87, 88, 106, 107, 108, 109, 110, 111, 112, 113, 114, 115, 116, 117, 118, 119, 120, 121, 122, 123, 124, 125] (by decide +kernel) (by decide +kernel)
set_option maxRecDepth 20000 in
theorem gX4_isIdentifiable_X0_solve : GoodIn wsX4_isIdentifiable (wsV RX4 122 RX0 yX0_solve wsX0_solve) := goodIn_app (goodIn_of _ (by decide +kernel)) ggX4_isIdentifiable_X0_solve
set_option maxRecDepth 20000 in
theorem ggX4_isIdentifiable_X4_slotOf : GoodIn wsX4_isIdentifiable wsX4_slotOf := goodIn_r _ [21] (by decide +kernel) (by decide +kernel)
set_option maxRecDepth 20000 in
theorem gX4_isIdentifiable_X4_slotOf : GoodIn wsX4_isIdentifiable (va_wsS RX4 84 yX4_slotOf wsX4_slotOf) := goodIn_app (goodIn_of _ (by decide +kernel)) ggX4_isIdentifiable_X4_slotOf
set_option maxRecDepth 20000 in
theorem ggX4_isIdentifiable_X0_determine : GoodIn wsX4_isIdentifiable wsX0_determine := goodIn_r _ [92, 93, 94, 95, 30, 96, 97, 98, 99, 100, 39, 69, 51, 114, 115, 116, 117, 118, 119, 120, 121] (by decide +kernel) (by decide +kernel)
set_option maxRecDepth 20000 in
theorem gX4_isIdentifiable_X0_determine : GoodIn wsX4_isIdentifiable (wsV RX4 136 RX0 yX0_determine wsX0_determine) := goodIn_app (goodIn_of _ (by decide +kernel)) ggX4_isIdentifiable_X0_determine
theorem dX4_isIdentifiable_0 : decode cX4_isIdentifiable 0 = .ok (.aload_n 0, 1) := by decide +kernel
theorem dX4_isIdentifiable_1 : decode cX4_isIdentifiable 1 = .ok (.iload_n 1, 1) := by decide +kernel
theorem dX4_isIdentifiable_2 : decode cX4_isIdentifiable 2 = .ok (.iload_n 2, 1) := by decide +kernel
theorem dX4_isIdentifiable_3 : decode cX4_isIdentifiable 3 = .ok (.invokevirtual 78, 3) := by decide +kernel
theorem dX4_isIdentifiable_6 : decode cX4_isIdentifiable 6 = .ok (.istore_n 3, 1) := by decide +kernel
theorem dX4_isIdentifiable_7 : decode cX4_isIdentifiable 7 = .ok (.iload_n 3, 1) := by decide +kernel
theorem dX4_isIdentifiable_8 : decode cX4_isIdentifiable 8 = .ok (.ifCond .eq 5, 3) := by decide +kernel
theorem dX4_isIdentifiable_11 : decode cX4_isIdentifiable 11 = .ok (.iload_n 3, 1) := by decide +kernel
theorem dX4_isIdentifiable_12 : decode cX4_isIdentifiable 12 = .ok (.ireturn, 1) := by decide +kernel
theorem dX4_isIdentifiable_13 : decode cX4_isIdentifiable 13 = .ok (.aload_n 0, 1) := by decide +kernel
theorem dX4_isIdentifiable_14 : decode cX4_isIdentifiable 14 = .ok (.getfield 32, 3) := by decide +kernel
theorem dX4_isIdentifiable_17 : decode cX4_isIdentifiable 17 = .ok (.aload_n 0, 1) := by decide +kernel
theorem dX4_isIdentifiable_18 : decode cX4_isIdentifiable 18 = .ok (.getfield 14, 3) := by decide +kernel
theorem dX4_isIdentifiable_21 : decode cX4_isIdentifiable 21 = .ok (.aload_n 0, 1) := by decide +kernel
theorem dX4_isIdentifiable_22 : decode cX4_isIdentifiable 22 = .ok (.getfield 25, 3) := by decide +kernel
theorem dX4_isIdentifiable_25 : decode cX4_isIdentifiable 25 = .ok (.invokevirtual 122, 3) := by decide +kernel
theorem dX4_isIdentifiable_28 : decode cX4_isIdentifiable 28 = .ok (.aload_n 0, 1) := by decide +kernel
theorem dX4_isIdentifiable_29 : decode cX4_isIdentifiable 29 = .ok (.getfield 32, 3) := by decide +kernel
theorem dX4_isIdentifiable_32 : decode cX4_isIdentifiable 32 = .ok (.iload_n 1, 1) := by decide +kernel
theorem dX4_isIdentifiable_33 : decode cX4_isIdentifiable 33 = .ok (.iload_n 2, 1) := by decide +kernel
theorem dX4_isIdentifiable_34 : decode cX4_isIdentifiable 34 = .ok (.invokestatic 84, 3) := by decide +kernel
theorem dX4_isIdentifiable_37 : decode cX4_isIdentifiable 37 = .ok (.invokevirtual 136, 3) := by decide +kernel
theorem dX4_isIdentifiable_40 : decode cX4_isIdentifiable 40 = .ok (.ifCond .eq 7, 3) := by decide +kernel
theorem dX4_isIdentifiable_43 : decode cX4_isIdentifiable 43 = .ok (.iconst 1, 1) := by decide +kernel
theorem dX4_isIdentifiable_44 : decode cX4_isIdentifiable 44 = .ok (.goto 4, 3) := by decide +kernel
theorem dX4_isIdentifiable_47 : decode cX4_isIdentifiable 47 = .ok (.iconst 0, 1) := by decide +kernel
theorem dX4_isIdentifiable_48 : decode cX4_isIdentifiable 48 = .ok (.ireturn, 1) := by decide +kernel
set_option maxRecDepth 20000 in
theorem ggX4_identifiableCount_X0_solve : GoodIn wsX4_identifiableCount wsX0_solve := goodIn_r _ [8, 9, 10, 11, 12, 13, 7, 14, 15, 16, 17, 18, 19, 20, 21, 22, 23, 24, 25, 26, 27, 28, 29, 30, 31, 32, 33, 34, 35, 36, 37, 38, 39, 40, 41, 42, 43, 44, 45, 46, 47, 48, 49, 50, 51, 52, 53, 54, 55, 56, 57, 58, 59, 60, 61, 62, 63, 64, 65, 66, 67, 68, 69, 70, 89, 90, 91, 92, 93, 94, 95, 96, 97, 98, 99, 100, 101, 102, 103, 104, 105, 106, 107, 108] (by decide +kernel) (by decide +kernel)
set_option maxRecDepth 20000 in
theorem gX4_identifiableCount_X0_solve : GoodIn wsX4_identifiableCount (wsV RX4 122 RX0 yX0_solve wsX0_solve) := goodIn_app (goodIn_of _ (by decide +kernel)) ggX4_identifiableCount_X0_solve
set_option maxRecDepth 20000 in
theorem ggX4_identifiableCount_X3_hasRoute : GoodIn wsX4_identifiableCount wsX3_hasRoute := goodIn_r _ [21, 22, 89, 90, 91, 92, 93, 94, 95, 96] (by decide +kernel) (by decide +kernel)
set_option maxRecDepth 20000 in
theorem gX4_identifiableCount_X3_hasRoute : GoodIn wsX4_identifiableCount (wsV RX4 139 RX3 yX3_hasRoute wsX3_hasRoute) := goodIn_app (goodIn_of _ (by decide +kernel)) ggX4_identifiableCount_X3_hasRoute
set_option maxRecDepth 20000 in
theorem ggX4_identifiableCount_X0_determine : GoodIn wsX4_identifiableCount wsX0_determine := goodIn_r _ [75, 76, 77, 78, 7, 79, 80, 81, 82, 83, 16, 51, 33, 97, 98, 99, 100, 101, 102, 103, 104] (by decide +kernel) (by decide +kernel)
set_option maxRecDepth 20000 in
theorem gX4_identifiableCount_X0_determine : GoodIn wsX4_identifiableCount (wsV RX4 136 RX0 yX0_determine wsX0_determine) := goodIn_app (goodIn_of _ (by decide +kernel)) ggX4_identifiableCount_X0_determine
theorem dX4_identifiableCount_0 : decode cX4_identifiableCount 0 = .ok (.aload_n 0, 1) := by decide +kernel
theorem dX4_identifiableCount_1 : decode cX4_identifiableCount 1 = .ok (.getfield 32, 3) := by decide +kernel
theorem dX4_identifiableCount_4 : decode cX4_identifiableCount 4 = .ok (.aload_n 0, 1) := by decide +kernel
theorem dX4_identifiableCount_5 : decode cX4_identifiableCount 5 = .ok (.getfield 14, 3) := by decide +kernel
theorem dX4_identifiableCount_8 : decode cX4_identifiableCount 8 = .ok (.aload_n 0, 1) := by decide +kernel
theorem dX4_identifiableCount_9 : decode cX4_identifiableCount 9 = .ok (.getfield 25, 3) := by decide +kernel
theorem dX4_identifiableCount_12 : decode cX4_identifiableCount 12 = .ok (.invokevirtual 122, 3) := by decide +kernel
theorem dX4_identifiableCount_15 : decode cX4_identifiableCount 15 = .ok (.iconst 0, 1) := by decide +kernel
theorem dX4_identifiableCount_16 : decode cX4_identifiableCount 16 = .ok (.istore_n 1, 1) := by decide +kernel
theorem dX4_identifiableCount_17 : decode cX4_identifiableCount 17 = .ok (.iconst 0, 1) := by decide +kernel
theorem dX4_identifiableCount_18 : decode cX4_identifiableCount 18 = .ok (.istore_n 2, 1) := by decide +kernel
theorem dX4_identifiableCount_19 : decode cX4_identifiableCount 19 = .ok (.iload_n 2, 1) := by decide +kernel
theorem dX4_identifiableCount_20 : decode cX4_identifiableCount 20 = .ok (.bipush 25, 2) := by decide +kernel
theorem dX4_identifiableCount_22 : decode cX4_identifiableCount 22 = .ok (.if_icmp .ge 34, 3) := by decide +kernel
theorem dX4_identifiableCount_25 : decode cX4_identifiableCount 25 = .ok (.aload_n 0, 1) := by decide +kernel
theorem dX4_identifiableCount_26 : decode cX4_identifiableCount 26 = .ok (.getfield 14, 3) := by decide +kernel
theorem dX4_identifiableCount_29 : decode cX4_identifiableCount 29 = .ok (.iload_n 2, 1) := by decide +kernel
theorem dX4_identifiableCount_30 : decode cX4_identifiableCount 30 = .ok (.invokevirtual 139, 3) := by decide +kernel
theorem dX4_identifiableCount_33 : decode cX4_identifiableCount 33 = .ok (.ifCond .eq 17, 3) := by decide +kernel
theorem dX4_identifiableCount_36 : decode cX4_identifiableCount 36 = .ok (.aload_n 0, 1) := by decide +kernel
theorem dX4_identifiableCount_37 : decode cX4_identifiableCount 37 = .ok (.getfield 32, 3) := by decide +kernel
theorem dX4_identifiableCount_40 : decode cX4_identifiableCount 40 = .ok (.iload_n 2, 1) := by decide +kernel
theorem dX4_identifiableCount_41 : decode cX4_identifiableCount 41 = .ok (.invokevirtual 136, 3) := by decide +kernel
theorem dX4_identifiableCount_44 : decode cX4_identifiableCount 44 = .ok (.ifCond .eq 6, 3) := by decide +kernel
theorem dX4_identifiableCount_47 : decode cX4_identifiableCount 47 = .ok (.iinc 1 1, 3) := by decide +kernel
theorem dX4_identifiableCount_50 : decode cX4_identifiableCount 50 = .ok (.iinc 2 1, 3) := by decide +kernel
theorem dX4_identifiableCount_53 : decode cX4_identifiableCount 53 = .ok (.goto (-34), 3) := by decide +kernel
theorem dX4_identifiableCount_56 : decode cX4_identifiableCount 56 = .ok (.iload_n 1, 1) := by decide +kernel
theorem dX4_identifiableCount_57 : decode cX4_identifiableCount 57 = .ok (.ireturn, 1) := by decide +kernel
set_option maxRecDepth 20000 in
theorem ggX4_identifiedNumerator_X4_findIdentified : GoodIn wsX4_identifiedNumerator wsX4_findIdentified := goodIn_r _ [8, 2, 9, 3, 10, 11, 12, 7, 13, 14, 15, 16, 17, 18, 19, 20, 21, 22, 23, 24, 25, 26, 27, 28, 29, 30, 31, 32, 33, 34, 35, 36, 37, 38, 39, 40, 41, 42, 43, 44, 45, 46, 47, 48, 49, 50, 51, 52, 53, 54, 55, 56, 57, 58, 59, 60, 61, 62, 63, 64, 65, 66, 67, 68, 69, 70, 71, 72, 73, 74, 75, 76, 77, 78, 79, 80, 81, 82, 83, 84, 85, 86, 87, 88, 89, 90, 91, 92, 93, 94, 95, 96, 97, 98, 99, 100, 101, 102, 103, 104, 105, 106, 107, 108, 109, 122, 123, 124, 125, 126, 127, 128, 129, 130, 131, 132, 133, 134, 135, 136, 137, 138, 139, 140, 141, 142, 143, 144, 145, 146] (by decide +kernel) (by decide +kernel)
set_option maxRecDepth 20000 in
theorem gX4_identifiedNumerator_X4_findIdentified : GoodIn wsX4_identifiedNumerator (wsV RX4 142 RX4 yX4_findIdentified wsX4_findIdentified) := goodIn_app (goodIn_of _ (by decide +kernel)) ggX4_identifiedNumerator_X4_findIdentified
set_option maxRecDepth 20000 in
theorem ggX4_identifiedNumerator_X4_slotOf : GoodIn wsX4_identifiedNumerator wsX4_slotOf := goodIn_r _ [26] (by decide +kernel) (by decide +kernel)
set_option maxRecDepth 20000 in
theorem gX4_identifiedNumerator_X4_slotOf : GoodIn wsX4_identifiedNumerator (va_wsS RX4 84 yX4_slotOf wsX4_slotOf) := goodIn_app (goodIn_of _ (by decide +kernel)) ggX4_identifiedNumerator_X4_slotOf
set_option maxRecDepth 20000 in
theorem ggX4_identifiedNumerator_X0_numeratorOf : GoodIn wsX4_identifiedNumerator wsX0_numeratorOf := goodIn_r _ [113, 74, 58, 56, 73, 114, 115, 116, 35, 117, 118, 119, 120, 121, 91, 92, 93, 135, 136, 137, 138, 139, 140, 141, 142, 143, 144, 145, 146] (by decide +kernel) (by decide +kernel)
set_option maxRecDepth 20000 in
theorem gX4_identifiedNumerator_X0_numeratorOf : GoodIn wsX4_identifiedNumerator (wsV RX4 148 RX0 yX0_numeratorOf wsX0_numeratorOf) := goodIn_app (goodIn_of _ (by decide +kernel)) ggX4_identifiedNumerator_X0_numeratorOf
theorem dX4_identifiedNumerator_0 : decode cX4_identifiedNumerator 0 = .ok (.aload_n 0, 1) := by decide +kernel
theorem dX4_identifiedNumerator_1 : decode cX4_identifiedNumerator 1 = .ok (.iload_n 1, 1) := by decide +kernel
theorem dX4_identifiedNumerator_2 : decode cX4_identifiedNumerator 2 = .ok (.iload_n 2, 1) := by decide +kernel
theorem dX4_identifiedNumerator_3 : decode cX4_identifiedNumerator 3 = .ok (.invokevirtual 142, 3) := by decide +kernel
theorem dX4_identifiedNumerator_6 : decode cX4_identifiedNumerator 6 = .ok (.ifCond .ne 7, 3) := by decide +kernel
theorem dX4_identifiedNumerator_9 : decode cX4_identifiedNumerator 9 = .ok (.ldc2_w 146, 3) := by decide +kernel
theorem dX4_identifiedNumerator_12 : decode cX4_identifiedNumerator 12 = .ok (.lreturn, 1) := by decide +kernel
theorem dX4_identifiedNumerator_13 : decode cX4_identifiedNumerator 13 = .ok (.aload_n 0, 1) := by decide +kernel
theorem dX4_identifiedNumerator_14 : decode cX4_identifiedNumerator 14 = .ok (.getfield 32, 3) := by decide +kernel
theorem dX4_identifiedNumerator_17 : decode cX4_identifiedNumerator 17 = .ok (.iload_n 1, 1) := by decide +kernel
theorem dX4_identifiedNumerator_18 : decode cX4_identifiedNumerator 18 = .ok (.iload_n 2, 1) := by decide +kernel
theorem dX4_identifiedNumerator_19 : decode cX4_identifiedNumerator 19 = .ok (.invokestatic 84, 3) := by decide +kernel
theorem dX4_identifiedNumerator_22 : decode cX4_identifiedNumerator 22 = .ok (.aload_n 0, 1) := by decide +kernel
theorem dX4_identifiedNumerator_23 : decode cX4_identifiedNumerator 23 = .ok (.getfield 25, 3) := by decide +kernel
theorem dX4_identifiedNumerator_26 : decode cX4_identifiedNumerator 26 = .ok (.invokevirtual 148, 3) := by decide +kernel
theorem dX4_identifiedNumerator_29 : decode cX4_identifiedNumerator 29 = .ok (.lreturn, 1) := by decide +kernel
set_option maxRecDepth 20000 in
theorem ggX4_identifiedDenominator_X4_findIdentified : GoodIn wsX4_identifiedDenominator wsX4_findIdentified := goodIn_r _ [7, 2, 8, 9, 10, 11, 12, 6, 13, 14, 15, 16, 17, 18, 19, 20, 21, 22, 23, 24, 25, 26, 27, 28, 29, 30, 31, 32, 33, 34, 35, 36, 37, 38, 39, 40, 41, 42, 43, 44, 45, 46, 47, 48, 49, 50, 51, 52, 53, 54, 55, 56, 57, 58, 59, 60, 61, 62, 63, 64, 65, 66, 67, 68, 69, 70, 71, 72, 73, 74, 75, 76, 77, 78, 79, 80, 81, 82, 83, 84, 85, 86, 87, 88, 89, 90, 91, 92, 93, 94, 95, 96, 97, 98, 99, 100, 101, 102, 103, 104, 105, 106, 107, 108, 109, 122, 123, 124, 125, 126, 127, 128, 129, 130, 131, 132, 133, 134, 135, 136, 137, 138, 139, 140, 141, 142, 143, 144, 145, 146] (by decide +kernel) (by decide +kernel)
set_option maxRecDepth 20000 in
theorem gX4_identifiedDenominator_X4_findIdentified : GoodIn wsX4_identifiedDenominator (wsV RX4 142 RX4 yX4_findIdentified wsX4_findIdentified) := goodIn_app (goodIn_of _ (by decide +kernel)) ggX4_identifiedDenominator_X4_findIdentified
set_option maxRecDepth 20000 in
theorem ggX4_identifiedDenominator_X4_slotOf : GoodIn wsX4_identifiedDenominator wsX4_slotOf := goodIn_r _ [26] (by decide +kernel) (by decide +kernel)
set_option maxRecDepth 20000 in
theorem gX4_identifiedDenominator_X4_slotOf : GoodIn wsX4_identifiedDenominator (va_wsS RX4 84 yX4_slotOf wsX4_slotOf) := goodIn_app (goodIn_of _ (by decide +kernel)) ggX4_identifiedDenominator_X4_slotOf
set_option maxRecDepth 20000 in
theorem ggX4_identifiedDenominator_X0_denominatorOf : GoodIn wsX4_identifiedDenominator wsX0_denominatorOf := goodIn_r _ [113, 74, 73, 114, 115, 116, 117, 56, 118, 119, 120, 35, 121, 91, 92, 93, 135, 136, 137, 138, 139, 140, 141, 142] (by decide +kernel) (by decide +kernel)
set_option maxRecDepth 20000 in
theorem gX4_identifiedDenominator_X0_denominatorOf : GoodIn wsX4_identifiedDenominator (wsV RX4 152 RX0 yX0_denominatorOf wsX0_denominatorOf) := goodIn_app (goodIn_of _ (by decide +kernel)) ggX4_identifiedDenominator_X0_denominatorOf
theorem dX4_identifiedDenominator_0 : decode cX4_identifiedDenominator 0 = .ok (.aload_n 0, 1) := by decide +kernel
theorem dX4_identifiedDenominator_1 : decode cX4_identifiedDenominator 1 = .ok (.iload_n 1, 1) := by decide +kernel
theorem dX4_identifiedDenominator_2 : decode cX4_identifiedDenominator 2 = .ok (.iload_n 2, 1) := by decide +kernel
theorem dX4_identifiedDenominator_3 : decode cX4_identifiedDenominator 3 = .ok (.invokevirtual 142, 3) := by decide +kernel
theorem dX4_identifiedDenominator_6 : decode cX4_identifiedDenominator 6 = .ok (.ifCond .ne 7, 3) := by decide +kernel
theorem dX4_identifiedDenominator_9 : decode cX4_identifiedDenominator 9 = .ok (.ldc2_w 146, 3) := by decide +kernel
theorem dX4_identifiedDenominator_12 : decode cX4_identifiedDenominator 12 = .ok (.lreturn, 1) := by decide +kernel
theorem dX4_identifiedDenominator_13 : decode cX4_identifiedDenominator 13 = .ok (.aload_n 0, 1) := by decide +kernel
theorem dX4_identifiedDenominator_14 : decode cX4_identifiedDenominator 14 = .ok (.getfield 32, 3) := by decide +kernel
theorem dX4_identifiedDenominator_17 : decode cX4_identifiedDenominator 17 = .ok (.iload_n 1, 1) := by decide +kernel
theorem dX4_identifiedDenominator_18 : decode cX4_identifiedDenominator 18 = .ok (.iload_n 2, 1) := by decide +kernel
theorem dX4_identifiedDenominator_19 : decode cX4_identifiedDenominator 19 = .ok (.invokestatic 84, 3) := by decide +kernel
theorem dX4_identifiedDenominator_22 : decode cX4_identifiedDenominator 22 = .ok (.invokevirtual 152, 3) := by decide +kernel
theorem dX4_identifiedDenominator_25 : decode cX4_identifiedDenominator 25 = .ok (.lreturn, 1) := by decide +kernel
set_option maxRecDepth 20000 in
theorem ggX4_bestPair_X0_solve : GoodIn wsX4_bestPair wsX0_solve := goodIn_r _ [8, 9, 10, 11, 12, 13, 7, 14, 15, 16, 17, 18, 19, 20, 21, 22, 23, 24, 25, 26, 27, 28, 29, 30, 31, 32, 33, 34, 35, 36, 37, 38, 39, 40, 41, 42, 43, 44, 45, 46, 47, 48, 49, 50, 51, 52, 53, 54, 55, 56, 57, 58, 59, 60, 61, 62, 63, 64, 65, 66, 67, 68, 69, 70, 99, 100, 101, 102, 103, 104, 105, 106, 107, 108, 109, 110, 111, 112, 113, 114, 115, 116, 117, 118] (by decide +kernel) (by decide +kernel)
set_option maxRecDepth 20000 in
theorem gX4_bestPair_X0_solve : GoodIn wsX4_bestPair (wsV RX4 122 RX0 yX0_solve wsX0_solve) := goodIn_app (goodIn_of _ (by decide +kernel)) ggX4_bestPair_X0_solve
set_option maxRecDepth 20000 in
theorem ggX4_bestPair_X3_hasRoute : GoodIn wsX4_bestPair wsX3_hasRoute := goodIn_r _ [21, 22, 99, 100, 101, 102, 103, 104, 105, 106] (by decide +kernel) (by decide +kernel)
set_option maxRecDepth 20000 in
theorem gX4_bestPair_X3_hasRoute : GoodIn wsX4_bestPair (wsV RX4 139 RX3 yX3_hasRoute wsX3_hasRoute) := goodIn_app (goodIn_of _ (by decide +kernel)) ggX4_bestPair_X3_hasRoute
set_option maxRecDepth 20000 in
theorem ggX4_bestPair_X0_determine : GoodIn wsX4_bestPair wsX0_determine := goodIn_r _ [75, 76, 77, 78, 7, 79, 80, 81, 82, 83, 16, 51, 33, 107, 108, 109, 110, 111, 112, 113, 114] (by decide +kernel) (by decide +kernel)
set_option maxRecDepth 20000 in
theorem gX4_bestPair_X0_determine : GoodIn wsX4_bestPair (wsV RX4 136 RX0 yX0_determine wsX0_determine) := goodIn_app (goodIn_of _ (by decide +kernel)) ggX4_bestPair_X0_determine
set_option maxRecDepth 20000 in
theorem ggX4_bestPair_X4_countWith : GoodIn wsX4_bestPair wsX4_countWith := goodIn_r _ [88, 2, 1, 71, 18, 19, 20, 21, 22, 89, 90, 91, 7, 92, 76, 77, 78, 79, 80, 81, 82, 83, 16, 51, 33, 93, 73, 74, 75, 94, 95, 96, 97, 98, 99, 100, 101, 102, 103, 104, 105, 106, 107, 108, 109, 110, 111, 112, 113, 114] (by decide +kernel) (by decide +kernel)
set_option maxRecDepth 20000 in
theorem gX4_bestPair_X4_countWith : GoodIn wsX4_bestPair (wsV RX4 156 RX4 yX4_countWith wsX4_countWith) := goodIn_app (goodIn_of _ (by decide +kernel)) ggX4_bestPair_X4_countWith
theorem dX4_bestPair_0 : decode cX4_bestPair 0 = .ok (.aload_n 0, 1) := by decide +kernel
theorem dX4_bestPair_1 : decode cX4_bestPair 1 = .ok (.getfield 32, 3) := by decide +kernel
theorem dX4_bestPair_4 : decode cX4_bestPair 4 = .ok (.aload_n 0, 1) := by decide +kernel
theorem dX4_bestPair_5 : decode cX4_bestPair 5 = .ok (.getfield 14, 3) := by decide +kernel
theorem dX4_bestPair_8 : decode cX4_bestPair 8 = .ok (.aload_n 0, 1) := by decide +kernel
theorem dX4_bestPair_9 : decode cX4_bestPair 9 = .ok (.getfield 25, 3) := by decide +kernel
theorem dX4_bestPair_12 : decode cX4_bestPair 12 = .ok (.invokevirtual 122, 3) := by decide +kernel
theorem dX4_bestPair_15 : decode cX4_bestPair 15 = .ok (.bipush (-7), 2) := by decide +kernel
theorem dX4_bestPair_17 : decode cX4_bestPair 17 = .ok (.istore_n 1, 1) := by decide +kernel
theorem dX4_bestPair_18 : decode cX4_bestPair 18 = .ok (.iconst 0, 1) := by decide +kernel
theorem dX4_bestPair_19 : decode cX4_bestPair 19 = .ok (.istore_n 2, 1) := by decide +kernel
theorem dX4_bestPair_20 : decode cX4_bestPair 20 = .ok (.iconst 0, 1) := by decide +kernel
theorem dX4_bestPair_21 : decode cX4_bestPair 21 = .ok (.istore_n 3, 1) := by decide +kernel
theorem dX4_bestPair_22 : decode cX4_bestPair 22 = .ok (.iload_n 3, 1) := by decide +kernel
theorem dX4_bestPair_23 : decode cX4_bestPair 23 = .ok (.bipush 25, 2) := by decide +kernel
theorem dX4_bestPair_25 : decode cX4_bestPair 25 = .ok (.if_icmp .ge 58, 3) := by decide +kernel
theorem dX4_bestPair_28 : decode cX4_bestPair 28 = .ok (.aload_n 0, 1) := by decide +kernel
theorem dX4_bestPair_29 : decode cX4_bestPair 29 = .ok (.getfield 14, 3) := by decide +kernel
theorem dX4_bestPair_32 : decode cX4_bestPair 32 = .ok (.iload_n 3, 1) := by decide +kernel
theorem dX4_bestPair_33 : decode cX4_bestPair 33 = .ok (.invokevirtual 139, 3) := by decide +kernel
theorem dX4_bestPair_36 : decode cX4_bestPair 36 = .ok (.ifCond .eq 41, 3) := by decide +kernel
theorem dX4_bestPair_39 : decode cX4_bestPair 39 = .ok (.aload_n 0, 1) := by decide +kernel
theorem dX4_bestPair_40 : decode cX4_bestPair 40 = .ok (.getfield 32, 3) := by decide +kernel
theorem dX4_bestPair_43 : decode cX4_bestPair 43 = .ok (.iload_n 3, 1) := by decide +kernel
theorem dX4_bestPair_44 : decode cX4_bestPair 44 = .ok (.invokevirtual 136, 3) := by decide +kernel
theorem dX4_bestPair_47 : decode cX4_bestPair 47 = .ok (.ifCond .ne 30, 3) := by decide +kernel
theorem dX4_bestPair_50 : decode cX4_bestPair 50 = .ok (.aload_n 0, 1) := by decide +kernel
theorem dX4_bestPair_51 : decode cX4_bestPair 51 = .ok (.iload_n 3, 1) := by decide +kernel
theorem dX4_bestPair_52 : decode cX4_bestPair 52 = .ok (.invokevirtual 156, 3) := by decide +kernel
theorem dX4_bestPair_55 : decode cX4_bestPair 55 = .ok (.istore 4, 2) := by decide +kernel
theorem dX4_bestPair_57 : decode cX4_bestPair 57 = .ok (.iload 4, 2) := by decide +kernel
theorem dX4_bestPair_59 : decode cX4_bestPair 59 = .ok (.iload_n 2, 1) := by decide +kernel
theorem dX4_bestPair_60 : decode cX4_bestPair 60 = .ok (.if_icmp .le 17, 3) := by decide +kernel
theorem dX4_bestPair_63 : decode cX4_bestPair 63 = .ok (.iload 4, 2) := by decide +kernel
theorem dX4_bestPair_65 : decode cX4_bestPair 65 = .ok (.istore_n 2, 1) := by decide +kernel
theorem dX4_bestPair_66 : decode cX4_bestPair 66 = .ok (.bipush 10, 2) := by decide +kernel
theorem dX4_bestPair_68 : decode cX4_bestPair 68 = .ok (.iload_n 3, 1) := by decide +kernel
theorem dX4_bestPair_69 : decode cX4_bestPair 69 = .ok (.iconst 5, 1) := by decide +kernel
theorem dX4_bestPair_70 : decode cX4_bestPair 70 = .ok (.idiv, 1) := by decide +kernel
theorem dX4_bestPair_71 : decode cX4_bestPair 71 = .ok (.imul, 1) := by decide +kernel
theorem dX4_bestPair_72 : decode cX4_bestPair 72 = .ok (.iload_n 3, 1) := by decide +kernel
theorem dX4_bestPair_73 : decode cX4_bestPair 73 = .ok (.iconst 5, 1) := by decide +kernel
theorem dX4_bestPair_74 : decode cX4_bestPair 74 = .ok (.irem, 1) := by decide +kernel
theorem dX4_bestPair_75 : decode cX4_bestPair 75 = .ok (.iadd, 1) := by decide +kernel
theorem dX4_bestPair_76 : decode cX4_bestPair 76 = .ok (.istore_n 1, 1) := by decide +kernel
theorem dX4_bestPair_77 : decode cX4_bestPair 77 = .ok (.iinc 3 1, 3) := by decide +kernel
theorem dX4_bestPair_80 : decode cX4_bestPair 80 = .ok (.goto (-58), 3) := by decide +kernel
theorem dX4_bestPair_83 : decode cX4_bestPair 83 = .ok (.iload_n 1, 1) := by decide +kernel
theorem dX4_bestPair_84 : decode cX4_bestPair 84 = .ok (.ireturn, 1) := by decide +kernel
set_option maxRecDepth 20000 in
theorem ggX4_pairsOnLink_X3_hasLink : GoodIn wsX4_pairsOnLink wsX3_hasLink := goodIn_r _ [6, 7, 19, 20, 21, 22, 23, 24, 25, 26] (by decide +kernel) (by decide +kernel)
set_option maxRecDepth 20000 in
theorem gX4_pairsOnLink_X3_hasLink : GoodIn wsX4_pairsOnLink (wsV RX4 72 RX3 yX3_hasLink wsX3_hasLink) := goodIn_app (goodIn_of _ (by decide +kernel)) ggX4_pairsOnLink_X3_hasLink
set_option maxRecDepth 20000 in
theorem ggX4_pairsOnLink_X3_routeUses : GoodIn wsX4_pairsOnLink wsX3_routeUses := goodIn_r _ [11, 12, 13, 19, 20, 21, 22, 23, 24, 25, 26] (by decide +kernel) (by decide +kernel)
set_option maxRecDepth 20000 in
theorem gX4_pairsOnLink_X3_routeUses : GoodIn wsX4_pairsOnLink (wsV RX4 160 RX3 yX3_routeUses wsX3_routeUses) := goodIn_app (goodIn_of _ (by decide +kernel)) ggX4_pairsOnLink_X3_routeUses
theorem dX4_pairsOnLink_0 : decode cX4_pairsOnLink 0 = .ok (.aload_n 0, 1) := by decide +kernel
theorem dX4_pairsOnLink_1 : decode cX4_pairsOnLink 1 = .ok (.getfield 14, 3) := by decide +kernel
theorem dX4_pairsOnLink_4 : decode cX4_pairsOnLink 4 = .ok (.iload_n 1, 1) := by decide +kernel
theorem dX4_pairsOnLink_5 : decode cX4_pairsOnLink 5 = .ok (.invokevirtual 72, 3) := by decide +kernel
theorem dX4_pairsOnLink_8 : decode cX4_pairsOnLink 8 = .ok (.ifCond .ne 6, 3) := by decide +kernel
theorem dX4_pairsOnLink_11 : decode cX4_pairsOnLink 11 = .ok (.bipush (-3), 2) := by decide +kernel
theorem dX4_pairsOnLink_13 : decode cX4_pairsOnLink 13 = .ok (.ireturn, 1) := by decide +kernel
theorem dX4_pairsOnLink_14 : decode cX4_pairsOnLink 14 = .ok (.iconst 0, 1) := by decide +kernel
theorem dX4_pairsOnLink_15 : decode cX4_pairsOnLink 15 = .ok (.istore_n 2, 1) := by decide +kernel
theorem dX4_pairsOnLink_16 : decode cX4_pairsOnLink 16 = .ok (.iconst 0, 1) := by decide +kernel
theorem dX4_pairsOnLink_17 : decode cX4_pairsOnLink 17 = .ok (.istore_n 3, 1) := by decide +kernel
theorem dX4_pairsOnLink_18 : decode cX4_pairsOnLink 18 = .ok (.iload_n 3, 1) := by decide +kernel
theorem dX4_pairsOnLink_19 : decode cX4_pairsOnLink 19 = .ok (.bipush 25, 2) := by decide +kernel
theorem dX4_pairsOnLink_21 : decode cX4_pairsOnLink 21 = .ok (.if_icmp .ge 24, 3) := by decide +kernel
theorem dX4_pairsOnLink_24 : decode cX4_pairsOnLink 24 = .ok (.aload_n 0, 1) := by decide +kernel
theorem dX4_pairsOnLink_25 : decode cX4_pairsOnLink 25 = .ok (.getfield 14, 3) := by decide +kernel
theorem dX4_pairsOnLink_28 : decode cX4_pairsOnLink 28 = .ok (.iload_n 3, 1) := by decide +kernel
theorem dX4_pairsOnLink_29 : decode cX4_pairsOnLink 29 = .ok (.iload_n 1, 1) := by decide +kernel
theorem dX4_pairsOnLink_30 : decode cX4_pairsOnLink 30 = .ok (.invokevirtual 160, 3) := by decide +kernel
theorem dX4_pairsOnLink_33 : decode cX4_pairsOnLink 33 = .ok (.ifCond .eq 6, 3) := by decide +kernel
theorem dX4_pairsOnLink_36 : decode cX4_pairsOnLink 36 = .ok (.iinc 2 1, 3) := by decide +kernel
theorem dX4_pairsOnLink_39 : decode cX4_pairsOnLink 39 = .ok (.iinc 3 1, 3) := by decide +kernel
theorem dX4_pairsOnLink_42 : decode cX4_pairsOnLink 42 = .ok (.goto (-24), 3) := by decide +kernel
theorem dX4_pairsOnLink_45 : decode cX4_pairsOnLink 45 = .ok (.iload_n 2, 1) := by decide +kernel
theorem dX4_pairsOnLink_46 : decode cX4_pairsOnLink 46 = .ok (.ireturn, 1) := by decide +kernel
set_option maxRecDepth 20000 in
theorem ggX4_applyGravity_X1_takeGravity : GoodIn wsX4_applyGravity wsX1_takeGravity := goodIn_r _ [8, 9, 10, 11, 12, 13, 14, 15, 16, 17, 18, 19, 20, 21, 22, 23, 24, 25, 7, 26, 27, 33, 34, 35, 36, 37, 38, 39, 40, 41, 42, 43, 44, 45, 46] (by decide +kernel) (by decide +kernel)
set_option maxRecDepth 20000 in
theorem gX4_applyGravity_X1_takeGravity : GoodIn wsX4_applyGravity (wsV RX4 163 RX1 yX1_takeGravity wsX1_takeGravity) := goodIn_app (goodIn_of _ (by decide +kernel)) ggX4_applyGravity_X1_takeGravity
theorem dX4_applyGravity_0 : decode cX4_applyGravity 0 = .ok (.aload_n 0, 1) := by decide +kernel
theorem dX4_applyGravity_1 : decode cX4_applyGravity 1 = .ok (.getfield 39, 3) := by decide +kernel
theorem dX4_applyGravity_4 : decode cX4_applyGravity 4 = .ok (.aload_n 0, 1) := by decide +kernel
theorem dX4_applyGravity_5 : decode cX4_applyGravity 5 = .ok (.getfield 14, 3) := by decide +kernel
theorem dX4_applyGravity_8 : decode cX4_applyGravity 8 = .ok (.aload_n 0, 1) := by decide +kernel
theorem dX4_applyGravity_9 : decode cX4_applyGravity 9 = .ok (.getfield 25, 3) := by decide +kernel
theorem dX4_applyGravity_12 : decode cX4_applyGravity 12 = .ok (.invokevirtual 163, 3) := by decide +kernel
theorem dX4_applyGravity_15 : decode cX4_applyGravity 15 = .ok (.ireturn, 1) := by decide +kernel
set_option maxRecDepth 20000 in
theorem ggX4_fitTotals_X4_isTimes : GoodIn wsX4_fitTotals wsX4_isTimes := goodIn_r _ [6] (by decide +kernel) (by decide +kernel)
set_option maxRecDepth 20000 in
theorem gX4_fitTotals_X4_isTimes : GoodIn wsX4_fitTotals (va_wsS RX4 167 yX4_isTimes wsX4_isTimes) := goodIn_app (goodIn_of _ (by decide +kernel)) ggX4_fitTotals_X4_isTimes
set_option maxRecDepth 20000 in
theorem ggX4_fitTotals_X1_remember : GoodIn wsX4_fitTotals wsX1_remember := goodIn_r _ [11, 12, 13, 14, 15, 16, 17, 43, 44] (by decide +kernel) (by decide +kernel)
set_option maxRecDepth 20000 in
theorem gX4_fitTotals_X1_remember : GoodIn wsX4_fitTotals (wsV RX4 170 RX1 yX1_remember wsX1_remember) := goodIn_app (goodIn_of _ (by decide +kernel)) ggX4_fitTotals_X1_remember
set_option maxRecDepth 20000 in
theorem ggX4_fitTotals_X1_fitOnceToTotals : GoodIn wsX4_fitTotals wsX1_fitOnceToTotals := goodIn_r _ [21, 22, 23, 24, 5, 25, 26, 27, 28, 10, 29, 12, 30, 31, 32, 33, 45, 46, 47, 48, 43, 44] (by decide +kernel) (by decide +kernel)
set_option maxRecDepth 20000 in
theorem gX4_fitTotals_X1_fitOnceToTotals : GoodIn wsX4_fitTotals (wsV RX4 173 RX1 yX1_fitOnceToTotals wsX1_fitOnceToTotals) := goodIn_app (goodIn_of _ (by decide +kernel)) ggX4_fitTotals_X1_fitOnceToTotals
set_option maxRecDepth 20000 in
theorem ggX4_fitTotals_X1_countChanged : GoodIn wsX4_fitTotals wsX1_countChanged := goodIn_r _ [37, 12, 13, 43, 44] (by decide +kernel) (by decide +kernel)
set_option maxRecDepth 20000 in
theorem gX4_fitTotals_X1_countChanged : GoodIn wsX4_fitTotals (wsV RX4 177 RX1 yX1_countChanged wsX1_countChanged) := goodIn_app (goodIn_of _ (by decide +kernel)) ggX4_fitTotals_X1_countChanged
theorem dX4_fitTotals_0 : decode cX4_fitTotals 0 = .ok (.iload_n 1, 1) := by decide +kernel
theorem dX4_fitTotals_1 : decode cX4_fitTotals 1 = .ok (.invokestatic 167, 3) := by decide +kernel
theorem dX4_fitTotals_4 : decode cX4_fitTotals 4 = .ok (.ifCond .ne 6, 3) := by decide +kernel
theorem dX4_fitTotals_7 : decode cX4_fitTotals 7 = .ok (.bipush (-4), 2) := by decide +kernel
theorem dX4_fitTotals_9 : decode cX4_fitTotals 9 = .ok (.ireturn, 1) := by decide +kernel
theorem dX4_fitTotals_10 : decode cX4_fitTotals 10 = .ok (.aload_n 0, 1) := by decide +kernel
theorem dX4_fitTotals_11 : decode cX4_fitTotals 11 = .ok (.getfield 39, 3) := by decide +kernel
theorem dX4_fitTotals_14 : decode cX4_fitTotals 14 = .ok (.invokevirtual 170, 3) := by decide +kernel
theorem dX4_fitTotals_17 : decode cX4_fitTotals 17 = .ok (.iconst 0, 1) := by decide +kernel
theorem dX4_fitTotals_18 : decode cX4_fitTotals 18 = .ok (.istore_n 2, 1) := by decide +kernel
theorem dX4_fitTotals_19 : decode cX4_fitTotals 19 = .ok (.iload_n 2, 1) := by decide +kernel
theorem dX4_fitTotals_20 : decode cX4_fitTotals 20 = .ok (.iload_n 1, 1) := by decide +kernel
theorem dX4_fitTotals_21 : decode cX4_fitTotals 21 = .ok (.if_icmp .ge 20, 3) := by decide +kernel
theorem dX4_fitTotals_24 : decode cX4_fitTotals 24 = .ok (.aload_n 0, 1) := by decide +kernel
theorem dX4_fitTotals_25 : decode cX4_fitTotals 25 = .ok (.getfield 39, 3) := by decide +kernel
theorem dX4_fitTotals_28 : decode cX4_fitTotals 28 = .ok (.aload_n 0, 1) := by decide +kernel
theorem dX4_fitTotals_29 : decode cX4_fitTotals 29 = .ok (.getfield 25, 3) := by decide +kernel
theorem dX4_fitTotals_32 : decode cX4_fitTotals 32 = .ok (.invokevirtual 173, 3) := by decide +kernel
theorem dX4_fitTotals_35 : decode cX4_fitTotals 35 = .ok (.iinc 2 1, 3) := by decide +kernel
theorem dX4_fitTotals_38 : decode cX4_fitTotals 38 = .ok (.goto (-19), 3) := by decide +kernel
theorem dX4_fitTotals_41 : decode cX4_fitTotals 41 = .ok (.aload_n 0, 1) := by decide +kernel
theorem dX4_fitTotals_42 : decode cX4_fitTotals 42 = .ok (.getfield 39, 3) := by decide +kernel
theorem dX4_fitTotals_45 : decode cX4_fitTotals 45 = .ok (.invokevirtual 177, 3) := by decide +kernel
theorem dX4_fitTotals_48 : decode cX4_fitTotals 48 = .ok (.ireturn, 1) := by decide +kernel
set_option maxRecDepth 20000 in
theorem ggX4_fitLinks_X4_isTimes : GoodIn wsX4_fitLinks wsX4_isTimes := goodIn_r _ [7] (by decide +kernel) (by decide +kernel)
set_option maxRecDepth 20000 in
theorem gX4_fitLinks_X4_isTimes : GoodIn wsX4_fitLinks (va_wsS RX4 167 yX4_isTimes wsX4_isTimes) := goodIn_app (goodIn_of _ (by decide +kernel)) ggX4_fitLinks_X4_isTimes
set_option maxRecDepth 20000 in
theorem ggX4_fitLinks_X1_remember : GoodIn wsX4_fitLinks wsX1_remember := goodIn_r _ [12, 13, 14, 15, 16, 17, 18, 53, 54] (by decide +kernel) (by decide +kernel)
set_option maxRecDepth 20000 in
theorem gX4_fitLinks_X1_remember : GoodIn wsX4_fitLinks (wsV RX4 170 RX1 yX1_remember wsX1_remember) := goodIn_app (goodIn_of _ (by decide +kernel)) ggX4_fitLinks_X1_remember
set_option maxRecDepth 20000 in
theorem ggX4_fitLinks_X1_fitOnceToLinks : GoodIn wsX4_fitLinks wsX1_fitOnceToLinks := goodIn_r _ [22, 23, 24, 25, 26, 27, 11, 28, 13, 29, 30, 31, 32, 33, 34, 35, 36, 37, 38, 39, 40, 41, 42, 43, 55, 56, 57, 58, 59, 60, 61, 62, 63, 64, 65, 66, 53, 54] (by decide +kernel) (by decide +kernel)
set_option maxRecDepth 20000 in
theorem gX4_fitLinks_X1_fitOnceToLinks : GoodIn wsX4_fitLinks (wsV RX4 180 RX1 yX1_fitOnceToLinks wsX1_fitOnceToLinks) := goodIn_app (goodIn_of _ (by decide +kernel)) ggX4_fitLinks_X1_fitOnceToLinks
set_option maxRecDepth 20000 in
theorem ggX4_fitLinks_X1_countChanged : GoodIn wsX4_fitLinks wsX1_countChanged := goodIn_r _ [47, 13, 14, 53, 54] (by decide +kernel) (by decide +kernel)
set_option maxRecDepth 20000 in
theorem gX4_fitLinks_X1_countChanged : GoodIn wsX4_fitLinks (wsV RX4 177 RX1 yX1_countChanged wsX1_countChanged) := goodIn_app (goodIn_of _ (by decide +kernel)) ggX4_fitLinks_X1_countChanged
theorem dX4_fitLinks_0 : decode cX4_fitLinks 0 = .ok (.iload_n 1, 1) := by decide +kernel
theorem dX4_fitLinks_1 : decode cX4_fitLinks 1 = .ok (.invokestatic 167, 3) := by decide +kernel
theorem dX4_fitLinks_4 : decode cX4_fitLinks 4 = .ok (.ifCond .ne 6, 3) := by decide +kernel
theorem dX4_fitLinks_7 : decode cX4_fitLinks 7 = .ok (.bipush (-4), 2) := by decide +kernel
theorem dX4_fitLinks_9 : decode cX4_fitLinks 9 = .ok (.ireturn, 1) := by decide +kernel
theorem dX4_fitLinks_10 : decode cX4_fitLinks 10 = .ok (.aload_n 0, 1) := by decide +kernel
theorem dX4_fitLinks_11 : decode cX4_fitLinks 11 = .ok (.getfield 39, 3) := by decide +kernel
theorem dX4_fitLinks_14 : decode cX4_fitLinks 14 = .ok (.invokevirtual 170, 3) := by decide +kernel
theorem dX4_fitLinks_17 : decode cX4_fitLinks 17 = .ok (.iconst 0, 1) := by decide +kernel
theorem dX4_fitLinks_18 : decode cX4_fitLinks 18 = .ok (.istore_n 2, 1) := by decide +kernel
theorem dX4_fitLinks_19 : decode cX4_fitLinks 19 = .ok (.iload_n 2, 1) := by decide +kernel
theorem dX4_fitLinks_20 : decode cX4_fitLinks 20 = .ok (.iload_n 1, 1) := by decide +kernel
theorem dX4_fitLinks_21 : decode cX4_fitLinks 21 = .ok (.if_icmp .ge 24, 3) := by decide +kernel
theorem dX4_fitLinks_24 : decode cX4_fitLinks 24 = .ok (.aload_n 0, 1) := by decide +kernel
theorem dX4_fitLinks_25 : decode cX4_fitLinks 25 = .ok (.getfield 39, 3) := by decide +kernel
theorem dX4_fitLinks_28 : decode cX4_fitLinks 28 = .ok (.aload_n 0, 1) := by decide +kernel
theorem dX4_fitLinks_29 : decode cX4_fitLinks 29 = .ok (.getfield 14, 3) := by decide +kernel
theorem dX4_fitLinks_32 : decode cX4_fitLinks 32 = .ok (.aload_n 0, 1) := by decide +kernel
theorem dX4_fitLinks_33 : decode cX4_fitLinks 33 = .ok (.getfield 25, 3) := by decide +kernel
theorem dX4_fitLinks_36 : decode cX4_fitLinks 36 = .ok (.invokevirtual 180, 3) := by decide +kernel
theorem dX4_fitLinks_39 : decode cX4_fitLinks 39 = .ok (.iinc 2 1, 3) := by decide +kernel
theorem dX4_fitLinks_42 : decode cX4_fitLinks 42 = .ok (.goto (-23), 3) := by decide +kernel
theorem dX4_fitLinks_45 : decode cX4_fitLinks 45 = .ok (.aload_n 0, 1) := by decide +kernel
theorem dX4_fitLinks_46 : decode cX4_fitLinks 46 = .ok (.getfield 39, 3) := by decide +kernel
theorem dX4_fitLinks_49 : decode cX4_fitLinks 49 = .ok (.invokevirtual 177, 3) := by decide +kernel
theorem dX4_fitLinks_52 : decode cX4_fitLinks 52 = .ok (.ireturn, 1) := by decide +kernel
set_option maxRecDepth 20000 in
theorem ggX4_estimate_X4_pairError : GoodIn wsX4_estimate wsX4_pairError := goodIn_r _ [8, 9, 10, 11, 12, 13, 14, 15, 19, 20, 21, 22, 23, 26, 27, 28, 29, 30, 31, 32, 33] (by decide +kernel) (by decide +kernel)
set_option maxRecDepth 20000 in
theorem gX4_estimate_X4_pairError : GoodIn wsX4_estimate (wsV RX4 60 RX4 yX4_pairError wsX4_pairError) := goodIn_app (goodIn_of _ (by decide +kernel)) ggX4_estimate_X4_pairError
set_option maxRecDepth 20000 in
theorem ggX4_estimate_X4_slotOf : GoodIn wsX4_estimate wsX4_slotOf := goodIn_r _ [18] (by decide +kernel) (by decide +kernel)
set_option maxRecDepth 20000 in
theorem gX4_estimate_X4_slotOf : GoodIn wsX4_estimate (va_wsS RX4 84 yX4_slotOf wsX4_slotOf) := goodIn_app (goodIn_of _ (by decide +kernel)) ggX4_estimate_X4_slotOf
theorem dX4_estimate_0 : decode cX4_estimate 0 = .ok (.aload_n 0, 1) := by decide +kernel
theorem dX4_estimate_1 : decode cX4_estimate 1 = .ok (.iload_n 1, 1) := by decide +kernel
theorem dX4_estimate_2 : decode cX4_estimate 2 = .ok (.iload_n 2, 1) := by decide +kernel
theorem dX4_estimate_3 : decode cX4_estimate 3 = .ok (.invokevirtual 60, 3) := by decide +kernel
theorem dX4_estimate_6 : decode cX4_estimate 6 = .ok (.ifCond .eq 7, 3) := by decide +kernel
theorem dX4_estimate_9 : decode cX4_estimate 9 = .ok (.ldc2_w 146, 3) := by decide +kernel
theorem dX4_estimate_12 : decode cX4_estimate 12 = .ok (.lreturn, 1) := by decide +kernel
theorem dX4_estimate_13 : decode cX4_estimate 13 = .ok (.aload_n 0, 1) := by decide +kernel
theorem dX4_estimate_14 : decode cX4_estimate 14 = .ok (.getfield 39, 3) := by decide +kernel
theorem dX4_estimate_17 : decode cX4_estimate 17 = .ok (.getfield 183, 3) := by decide +kernel
theorem dX4_estimate_20 : decode cX4_estimate 20 = .ok (.iload_n 1, 1) := by decide +kernel
theorem dX4_estimate_21 : decode cX4_estimate 21 = .ok (.iload_n 2, 1) := by decide +kernel
theorem dX4_estimate_22 : decode cX4_estimate 22 = .ok (.invokestatic 84, 3) := by decide +kernel
theorem dX4_estimate_25 : decode cX4_estimate 25 = .ok (.laload, 1) := by decide +kernel
theorem dX4_estimate_26 : decode cX4_estimate 26 = .ok (.lreturn, 1) := by decide +kernel
set_option maxRecDepth 20000 in
theorem ggX4_residual_X3_hasLink : GoodIn wsX4_residual wsX3_hasLink := goodIn_r _ [11, 12, 34, 35, 36, 37, 38, 39, 40, 41] (by decide +kernel) (by decide +kernel)
set_option maxRecDepth 20000 in
theorem gX4_residual_X3_hasLink : GoodIn wsX4_residual (wsV RX4 72 RX3 yX3_hasLink wsX3_hasLink) := goodIn_app (goodIn_of _ (by decide +kernel)) ggX4_residual_X3_hasLink
set_option maxRecDepth 20000 in
theorem ggX4_residual_X1_sumOnLink : GoodIn wsX4_residual wsX1_sumOnLink := goodIn_r _ [17, 18, 19, 20, 21, 10, 22, 23, 24, 42, 43, 34, 35, 36, 37, 38, 39, 40, 41] (by decide +kernel) (by decide +kernel)
set_option maxRecDepth 20000 in
theorem gX4_residual_X1_sumOnLink : GoodIn wsX4_residual (wsV RX4 187 RX1 yX1_sumOnLink wsX1_sumOnLink) := goodIn_app (goodIn_of _ (by decide +kernel)) ggX4_residual_X1_sumOnLink
theorem dX4_residual_0 : decode cX4_residual 0 = .ok (.aload_n 0, 1) := by decide +kernel
theorem dX4_residual_1 : decode cX4_residual 1 = .ok (.getfield 14, 3) := by decide +kernel
theorem dX4_residual_4 : decode cX4_residual 4 = .ok (.iload_n 1, 1) := by decide +kernel
theorem dX4_residual_5 : decode cX4_residual 5 = .ok (.invokevirtual 72, 3) := by decide +kernel
theorem dX4_residual_8 : decode cX4_residual 8 = .ok (.ifCond .ne 7, 3) := by decide +kernel
theorem dX4_residual_11 : decode cX4_residual 11 = .ok (.ldc2_w 146, 3) := by decide +kernel
theorem dX4_residual_14 : decode cX4_residual 14 = .ok (.lreturn, 1) := by decide +kernel
theorem dX4_residual_15 : decode cX4_residual 15 = .ok (.aload_n 0, 1) := by decide +kernel
theorem dX4_residual_16 : decode cX4_residual 16 = .ok (.getfield 39, 3) := by decide +kernel
theorem dX4_residual_19 : decode cX4_residual 19 = .ok (.aload_n 0, 1) := by decide +kernel
theorem dX4_residual_20 : decode cX4_residual 20 = .ok (.getfield 14, 3) := by decide +kernel
theorem dX4_residual_23 : decode cX4_residual 23 = .ok (.iload_n 1, 1) := by decide +kernel
theorem dX4_residual_24 : decode cX4_residual 24 = .ok (.invokevirtual 187, 3) := by decide +kernel
theorem dX4_residual_27 : decode cX4_residual 27 = .ok (.ldc2_w 191, 3) := by decide +kernel
theorem dX4_residual_30 : decode cX4_residual 30 = .ok (.aload_n 0, 1) := by decide +kernel
theorem dX4_residual_31 : decode cX4_residual 31 = .ok (.getfield 25, 3) := by decide +kernel
theorem dX4_residual_34 : decode cX4_residual 34 = .ok (.getfield 104, 3) := by decide +kernel
theorem dX4_residual_37 : decode cX4_residual 37 = .ok (.iload_n 1, 1) := by decide +kernel
theorem dX4_residual_38 : decode cX4_residual 38 = .ok (.iaload, 1) := by decide +kernel
theorem dX4_residual_39 : decode cX4_residual 39 = .ok (.i2l, 1) := by decide +kernel
theorem dX4_residual_40 : decode cX4_residual 40 = .ok (.lmul, 1) := by decide +kernel
theorem dX4_residual_41 : decode cX4_residual 41 = .ok (.lsub, 1) := by decide +kernel
theorem dX4_residual_42 : decode cX4_residual 42 = .ok (.lreturn, 1) := by decide +kernel
set_option maxRecDepth 20000 in
theorem ggX4_totalError_X3_hasRoute : GoodIn wsX4_totalError wsX3_hasRoute := goodIn_r _ [14, 15, 23, 24, 25, 26, 27, 28, 29, 30] (by decide +kernel) (by decide +kernel)
set_option maxRecDepth 20000 in
theorem gX4_totalError_X3_hasRoute : GoodIn wsX4_totalError (wsV RX4 139 RX3 yX3_hasRoute wsX3_hasRoute) := goodIn_app (goodIn_of _ (by decide +kernel)) ggX4_totalError_X3_hasRoute
theorem dX4_totalError_0 : decode cX4_totalError 0 = .ok (.lconst 0, 1) := by decide +kernel
theorem dX4_totalError_1 : decode cX4_totalError 1 = .ok (.lstore_n 1, 1) := by decide +kernel
theorem dX4_totalError_2 : decode cX4_totalError 2 = .ok (.iconst 0, 1) := by decide +kernel
theorem dX4_totalError_3 : decode cX4_totalError 3 = .ok (.istore_n 3, 1) := by decide +kernel
theorem dX4_totalError_4 : decode cX4_totalError 4 = .ok (.iload_n 3, 1) := by decide +kernel
theorem dX4_totalError_5 : decode cX4_totalError 5 = .ok (.bipush 25, 2) := by decide +kernel
theorem dX4_totalError_7 : decode cX4_totalError 7 = .ok (.if_icmp .ge 47, 3) := by decide +kernel
theorem dX4_totalError_10 : decode cX4_totalError 10 = .ok (.aload_n 0, 1) := by decide +kernel
theorem dX4_totalError_11 : decode cX4_totalError 11 = .ok (.getfield 14, 3) := by decide +kernel
theorem dX4_totalError_14 : decode cX4_totalError 14 = .ok (.iload_n 3, 1) := by decide +kernel
theorem dX4_totalError_15 : decode cX4_totalError 15 = .ok (.invokevirtual 139, 3) := by decide +kernel
theorem dX4_totalError_18 : decode cX4_totalError 18 = .ok (.ifCond .eq 30, 3) := by decide +kernel
theorem dX4_totalError_21 : decode cX4_totalError 21 = .ok (.lload_n 1, 1) := by decide +kernel
theorem dX4_totalError_22 : decode cX4_totalError 22 = .ok (.aload_n 0, 1) := by decide +kernel
theorem dX4_totalError_23 : decode cX4_totalError 23 = .ok (.getfield 39, 3) := by decide +kernel
theorem dX4_totalError_26 : decode cX4_totalError 26 = .ok (.getfield 183, 3) := by decide +kernel
theorem dX4_totalError_29 : decode cX4_totalError 29 = .ok (.iload_n 3, 1) := by decide +kernel
theorem dX4_totalError_30 : decode cX4_totalError 30 = .ok (.laload, 1) := by decide +kernel
theorem dX4_totalError_31 : decode cX4_totalError 31 = .ok (.ldc2_w 191, 3) := by decide +kernel
theorem dX4_totalError_34 : decode cX4_totalError 34 = .ok (.aload_n 0, 1) := by decide +kernel
theorem dX4_totalError_35 : decode cX4_totalError 35 = .ok (.getfield 18, 3) := by decide +kernel
theorem dX4_totalError_38 : decode cX4_totalError 38 = .ok (.iload_n 3, 1) := by decide +kernel
theorem dX4_totalError_39 : decode cX4_totalError 39 = .ok (.iaload, 1) := by decide +kernel
theorem dX4_totalError_40 : decode cX4_totalError 40 = .ok (.i2l, 1) := by decide +kernel
theorem dX4_totalError_41 : decode cX4_totalError 41 = .ok (.lmul, 1) := by decide +kernel
theorem dX4_totalError_42 : decode cX4_totalError 42 = .ok (.lsub, 1) := by decide +kernel
theorem dX4_totalError_43 : decode cX4_totalError 43 = .ok (.invokestatic 193, 3) := by decide +kernel
theorem dX4_totalError_46 : decode cX4_totalError 46 = .ok (.ladd, 1) := by decide +kernel
theorem dX4_totalError_47 : decode cX4_totalError 47 = .ok (.lstore_n 1, 1) := by decide +kernel
theorem dX4_totalError_48 : decode cX4_totalError 48 = .ok (.iinc 3 1, 3) := by decide +kernel
theorem dX4_totalError_51 : decode cX4_totalError 51 = .ok (.goto (-47), 3) := by decide +kernel
theorem dX4_totalError_54 : decode cX4_totalError 54 = .ok (.lload_n 1, 1) := by decide +kernel
theorem dX4_totalError_55 : decode cX4_totalError 55 = .ok (.lreturn, 1) := by decide +kernel
theorem dX4_slotOf_0 : decode cX4_slotOf 0 = .ok (.iload_n 0, 1) := by decide +kernel
theorem dX4_slotOf_1 : decode cX4_slotOf 1 = .ok (.iconst 5, 1) := by decide +kernel
theorem dX4_slotOf_2 : decode cX4_slotOf 2 = .ok (.imul, 1) := by decide +kernel
theorem dX4_slotOf_3 : decode cX4_slotOf 3 = .ok (.iload_n 1, 1) := by decide +kernel
theorem dX4_slotOf_4 : decode cX4_slotOf 4 = .ok (.iadd, 1) := by decide +kernel
theorem dX4_slotOf_5 : decode cX4_slotOf 5 = .ok (.ireturn, 1) := by decide +kernel
theorem dX4_isMetric_0 : decode cX4_isMetric 0 = .ok (.iload_n 0, 1) := by decide +kernel
theorem dX4_isMetric_1 : decode cX4_isMetric 1 = .ok (.iconst 1, 1) := by decide +kernel
theorem dX4_isMetric_2 : decode cX4_isMetric 2 = .ok (.if_icmp .lt 13, 3) := by decide +kernel
theorem dX4_isMetric_5 : decode cX4_isMetric 5 = .ok (.iload_n 0, 1) := by decide +kernel
theorem dX4_isMetric_6 : decode cX4_isMetric 6 = .ok (.bipush 99, 2) := by decide +kernel
theorem dX4_isMetric_8 : decode cX4_isMetric 8 = .ok (.if_icmp .gt 7, 3) := by decide +kernel
theorem dX4_isMetric_11 : decode cX4_isMetric 11 = .ok (.iconst 1, 1) := by decide +kernel
theorem dX4_isMetric_12 : decode cX4_isMetric 12 = .ok (.goto 4, 3) := by decide +kernel
theorem dX4_isMetric_15 : decode cX4_isMetric 15 = .ok (.iconst 0, 1) := by decide +kernel
theorem dX4_isMetric_16 : decode cX4_isMetric 16 = .ok (.ireturn, 1) := by decide +kernel
theorem dX4_isTimes_0 : decode cX4_isTimes 0 = .ok (.iload_n 0, 1) := by decide +kernel
theorem dX4_isTimes_1 : decode cX4_isTimes 1 = .ok (.iconst 1, 1) := by decide +kernel
theorem dX4_isTimes_2 : decode cX4_isTimes 2 = .ok (.if_icmp .lt 13, 3) := by decide +kernel
theorem dX4_isTimes_5 : decode cX4_isTimes 5 = .ok (.iload_n 0, 1) := by decide +kernel
theorem dX4_isTimes_6 : decode cX4_isTimes 6 = .ok (.bipush 50, 2) := by decide +kernel
theorem dX4_isTimes_8 : decode cX4_isTimes 8 = .ok (.if_icmp .gt 7, 3) := by decide +kernel
theorem dX4_isTimes_11 : decode cX4_isTimes 11 = .ok (.iconst 1, 1) := by decide +kernel
theorem dX4_isTimes_12 : decode cX4_isTimes 12 = .ok (.goto 4, 3) := by decide +kernel
theorem dX4_isTimes_15 : decode cX4_isTimes 15 = .ok (.iconst 0, 1) := by decide +kernel
theorem dX4_isTimes_16 : decode cX4_isTimes 16 = .ok (.ireturn, 1) := by decide +kernel
set_option maxRecDepth 20000 in
theorem ggX4_pairError_X3_hasNode : GoodIn wsX4_pairError wsX3_hasNode := goodIn_r _ [6, 7, 13, 14, 15, 16, 17, 18, 19, 20] (by decide +kernel) (by decide +kernel)
set_option maxRecDepth 20000 in
theorem gX4_pairError_X3_hasNode : GoodIn wsX4_pairError (wsV RX4 107 RX3 yX3_hasNode wsX3_hasNode) := goodIn_app (goodIn_of _ (by decide +kernel)) ggX4_pairError_X3_hasNode
theorem dX4_pairError_0 : decode cX4_pairError 0 = .ok (.aload_n 0, 1) := by decide +kernel
theorem dX4_pairError_1 : decode cX4_pairError 1 = .ok (.getfield 14, 3) := by decide +kernel
theorem dX4_pairError_4 : decode cX4_pairError 4 = .ok (.iload_n 1, 1) := by decide +kernel
theorem dX4_pairError_5 : decode cX4_pairError 5 = .ok (.invokevirtual 107, 3) := by decide +kernel
theorem dX4_pairError_8 : decode cX4_pairError 8 = .ok (.ifCond .eq 14, 3) := by decide +kernel
theorem dX4_pairError_11 : decode cX4_pairError 11 = .ok (.aload_n 0, 1) := by decide +kernel
theorem dX4_pairError_12 : decode cX4_pairError 12 = .ok (.getfield 14, 3) := by decide +kernel
theorem dX4_pairError_15 : decode cX4_pairError 15 = .ok (.iload_n 2, 1) := by decide +kernel
theorem dX4_pairError_16 : decode cX4_pairError 16 = .ok (.invokevirtual 107, 3) := by decide +kernel
theorem dX4_pairError_19 : decode cX4_pairError 19 = .ok (.ifCond .ne 5, 3) := by decide +kernel
theorem dX4_pairError_22 : decode cX4_pairError 22 = .ok (.iconst (-1), 1) := by decide +kernel
theorem dX4_pairError_23 : decode cX4_pairError 23 = .ok (.ireturn, 1) := by decide +kernel
theorem dX4_pairError_24 : decode cX4_pairError 24 = .ok (.iload_n 1, 1) := by decide +kernel
theorem dX4_pairError_25 : decode cX4_pairError 25 = .ok (.iload_n 2, 1) := by decide +kernel
theorem dX4_pairError_26 : decode cX4_pairError 26 = .ok (.if_icmp .ne 8, 3) := by decide +kernel
theorem dX4_pairError_29 : decode cX4_pairError 29 = .ok (.bipush (-2), 2) := by decide +kernel
theorem dX4_pairError_31 : decode cX4_pairError 31 = .ok (.goto 4, 3) := by decide +kernel
theorem dX4_pairError_34 : decode cX4_pairError 34 = .ok (.iconst 0, 1) := by decide +kernel
theorem dX4_pairError_35 : decode cX4_pairError 35 = .ok (.ireturn, 1) := by decide +kernel
set_option maxRecDepth 20000 in
theorem ggX4_routeError_X4_pairError : GoodIn wsX4_routeError wsX4_pairError := goodIn_r _ [6, 1, 7, 8, 9, 10, 11, 12, 21, 22, 23, 24, 25, 26, 27, 28, 29, 30, 31, 32, 33] (by decide +kernel) (by decide +kernel)
set_option maxRecDepth 20000 in
theorem gX4_routeError_X4_pairError : GoodIn wsX4_routeError (wsV RX4 60 RX4 yX4_pairError wsX4_pairError) := goodIn_app (goodIn_of _ (by decide +kernel)) ggX4_routeError_X4_pairError
set_option maxRecDepth 20000 in
theorem ggX4_routeError_X4_slotOf : GoodIn wsX4_routeError wsX4_slotOf := goodIn_r _ [15] (by decide +kernel) (by decide +kernel)
set_option maxRecDepth 20000 in
theorem gX4_routeError_X4_slotOf : GoodIn wsX4_routeError (va_wsS RX4 84 yX4_slotOf wsX4_slotOf) := goodIn_app (goodIn_of _ (by decide +kernel)) ggX4_routeError_X4_slotOf
set_option maxRecDepth 20000 in
theorem ggX4_routeError_X3_hasRoute : GoodIn wsX4_routeError wsX3_hasRoute := goodIn_r _ [19, 20, 26, 27, 28, 29, 30, 31, 32, 33] (by decide +kernel) (by decide +kernel)
set_option maxRecDepth 20000 in
theorem gX4_routeError_X3_hasRoute : GoodIn wsX4_routeError (wsV RX4 139 RX3 yX3_hasRoute wsX3_hasRoute) := goodIn_app (goodIn_of _ (by decide +kernel)) ggX4_routeError_X3_hasRoute
theorem dX4_routeError_0 : decode cX4_routeError 0 = .ok (.aload_n 0, 1) := by decide +kernel
theorem dX4_routeError_1 : decode cX4_routeError 1 = .ok (.iload_n 1, 1) := by decide +kernel
theorem dX4_routeError_2 : decode cX4_routeError 2 = .ok (.iload_n 2, 1) := by decide +kernel
theorem dX4_routeError_3 : decode cX4_routeError 3 = .ok (.invokevirtual 60, 3) := by decide +kernel
theorem dX4_routeError_6 : decode cX4_routeError 6 = .ok (.istore_n 3, 1) := by decide +kernel
theorem dX4_routeError_7 : decode cX4_routeError 7 = .ok (.iload_n 3, 1) := by decide +kernel
theorem dX4_routeError_8 : decode cX4_routeError 8 = .ok (.ifCond .eq 5, 3) := by decide +kernel
theorem dX4_routeError_11 : decode cX4_routeError 11 = .ok (.iload_n 3, 1) := by decide +kernel
theorem dX4_routeError_12 : decode cX4_routeError 12 = .ok (.ireturn, 1) := by decide +kernel
theorem dX4_routeError_13 : decode cX4_routeError 13 = .ok (.aload_n 0, 1) := by decide +kernel
theorem dX4_routeError_14 : decode cX4_routeError 14 = .ok (.getfield 14, 3) := by decide +kernel
theorem dX4_routeError_17 : decode cX4_routeError 17 = .ok (.iload_n 1, 1) := by decide +kernel
theorem dX4_routeError_18 : decode cX4_routeError 18 = .ok (.iload_n 2, 1) := by decide +kernel
theorem dX4_routeError_19 : decode cX4_routeError 19 = .ok (.invokestatic 84, 3) := by decide +kernel
theorem dX4_routeError_22 : decode cX4_routeError 22 = .ok (.invokevirtual 139, 3) := by decide +kernel
theorem dX4_routeError_25 : decode cX4_routeError 25 = .ok (.ifCond .eq 7, 3) := by decide +kernel
theorem dX4_routeError_28 : decode cX4_routeError 28 = .ok (.iconst 0, 1) := by decide +kernel
theorem dX4_routeError_29 : decode cX4_routeError 29 = .ok (.goto 5, 3) := by decide +kernel
theorem dX4_routeError_32 : decode cX4_routeError 32 = .ok (.bipush (-6), 2) := by decide +kernel
theorem dX4_routeError_34 : decode cX4_routeError 34 = .ok (.ireturn, 1) := by decide +kernel
set_option maxRecDepth 20000 in
theorem ggX4_findIdentified_X4_routeError : GoodIn wsX4_findIdentified wsX4_routeError := goodIn_r _ [8, 2, 9, 10, 11, 7, 12, 13, 14, 15, 16, 17, 18, 19, 20, 21, 22, 23, 24, 25, 26, 105, 106, 107, 108, 109, 110, 111, 112, 113, 114, 115, 116, 117] (by decide +kernel) (by decide +kernel)
set_option maxRecDepth 20000 in
theorem gX4_findIdentified_X4_routeError : GoodIn wsX4_findIdentified (wsV RX4 78 RX4 yX4_routeError wsX4_routeError) := goodIn_app (goodIn_of _ (by decide +kernel)) ggX4_findIdentified_X4_routeError
set_option maxRecDepth 20000 in
theorem ggX4_findIdentified_X0_solve : GoodIn wsX4_findIdentified wsX0_solve := goodIn_r _ [31, 32, 33, 34, 35, 36, 30, 37, 38, 39, 40, 23, 24, 16, 25, 26, 41, 42, 43, 44, 45, 46, 47, 48, 49, 50, 51, 52, 53, 54, 55, 56, 57, 58, 59, 60, 61, 62, 63, 64, 65, 66, 67, 68, 69, 70, 71, 72, 73, 74, 75, 76, 77, 78, 79, 80, 81, 82, 83, 84, 85, 86, 87, 88, 110, 111, 112, 113, 114, 115, 116, 117, 118, 119, 120, 121, 122, 123, 124, 125, 126, 127, 128, 129] (by decide +kernel) (by decide +kernel)
set_option maxRecDepth 20000 in
theorem gX4_findIdentified_X0_solve : GoodIn wsX4_findIdentified (wsV RX4 122 RX0 yX0_solve wsX0_solve) := goodIn_app (goodIn_of _ (by decide +kernel)) ggX4_findIdentified_X0_solve
set_option maxRecDepth 20000 in
theorem ggX4_findIdentified_X4_slotOf : GoodIn wsX4_findIdentified wsX4_slotOf := goodIn_r _ [21] (by decide +kernel) (by decide +kernel)
set_option maxRecDepth 20000 in
theorem gX4_findIdentified_X4_slotOf : GoodIn wsX4_findIdentified (va_wsS RX4 84 yX4_slotOf wsX4_slotOf) := goodIn_app (goodIn_of _ (by decide +kernel)) ggX4_findIdentified_X4_slotOf
set_option maxRecDepth 20000 in
theorem ggX4_findIdentified_X0_determine : GoodIn wsX4_findIdentified wsX0_determine := goodIn_r _ [92, 93, 94, 95, 30, 96, 97, 98, 99, 100, 39, 69, 51, 118, 119, 120, 121, 122, 123, 124, 125] (by decide +kernel) (by decide +kernel)
set_option maxRecDepth 20000 in
theorem gX4_findIdentified_X0_determine : GoodIn wsX4_findIdentified (wsV RX4 136 RX0 yX0_determine wsX0_determine) := goodIn_app (goodIn_of _ (by decide +kernel)) ggX4_findIdentified_X0_determine
set_option maxRecDepth 20000 in
theorem ggX4_findIdentified_X0_haveSolution : GoodIn wsX4_findIdentified wsX0_haveSolution := goodIn_r _ [104, 33, 70, 51, 118, 119, 120, 121, 122, 123, 124, 125] (by decide +kernel) (by decide +kernel)
set_option maxRecDepth 20000 in
theorem gX4_findIdentified_X0_haveSolution : GoodIn wsX4_findIdentified (wsV RX4 132 RX0 yX0_haveSolution wsX0_haveSolution) := goodIn_app (goodIn_of _ (by decide +kernel)) ggX4_findIdentified_X0_haveSolution
theorem dX4_findIdentified_0 : decode cX4_findIdentified 0 = .ok (.aload_n 0, 1) := by decide +kernel
theorem dX4_findIdentified_1 : decode cX4_findIdentified 1 = .ok (.iload_n 1, 1) := by decide +kernel
theorem dX4_findIdentified_2 : decode cX4_findIdentified 2 = .ok (.iload_n 2, 1) := by decide +kernel
theorem dX4_findIdentified_3 : decode cX4_findIdentified 3 = .ok (.invokevirtual 78, 3) := by decide +kernel
theorem dX4_findIdentified_6 : decode cX4_findIdentified 6 = .ok (.ifCond .eq 5, 3) := by decide +kernel
theorem dX4_findIdentified_9 : decode cX4_findIdentified 9 = .ok (.iconst 0, 1) := by decide +kernel
theorem dX4_findIdentified_10 : decode cX4_findIdentified 10 = .ok (.ireturn, 1) := by decide +kernel
theorem dX4_findIdentified_11 : decode cX4_findIdentified 11 = .ok (.aload_n 0, 1) := by decide +kernel
theorem dX4_findIdentified_12 : decode cX4_findIdentified 12 = .ok (.getfield 32, 3) := by decide +kernel
theorem dX4_findIdentified_15 : decode cX4_findIdentified 15 = .ok (.aload_n 0, 1) := by decide +kernel
theorem dX4_findIdentified_16 : decode cX4_findIdentified 16 = .ok (.getfield 14, 3) := by decide +kernel
theorem dX4_findIdentified_19 : decode cX4_findIdentified 19 = .ok (.aload_n 0, 1) := by decide +kernel
theorem dX4_findIdentified_20 : decode cX4_findIdentified 20 = .ok (.getfield 25, 3) := by decide +kernel
theorem dX4_findIdentified_23 : decode cX4_findIdentified 23 = .ok (.invokevirtual 122, 3) := by decide +kernel
theorem dX4_findIdentified_26 : decode cX4_findIdentified 26 = .ok (.aload_n 0, 1) := by decide +kernel
theorem dX4_findIdentified_27 : decode cX4_findIdentified 27 = .ok (.getfield 32, 3) := by decide +kernel
theorem dX4_findIdentified_30 : decode cX4_findIdentified 30 = .ok (.iload_n 1, 1) := by decide +kernel
theorem dX4_findIdentified_31 : decode cX4_findIdentified 31 = .ok (.iload_n 2, 1) := by decide +kernel
theorem dX4_findIdentified_32 : decode cX4_findIdentified 32 = .ok (.invokestatic 84, 3) := by decide +kernel
theorem dX4_findIdentified_35 : decode cX4_findIdentified 35 = .ok (.invokevirtual 136, 3) := by decide +kernel
theorem dX4_findIdentified_38 : decode cX4_findIdentified 38 = .ok (.ifCond .eq 17, 3) := by decide +kernel
theorem dX4_findIdentified_41 : decode cX4_findIdentified 41 = .ok (.aload_n 0, 1) := by decide +kernel
theorem dX4_findIdentified_42 : decode cX4_findIdentified 42 = .ok (.getfield 32, 3) := by decide +kernel
theorem dX4_findIdentified_45 : decode cX4_findIdentified 45 = .ok (.invokevirtual 132, 3) := by decide +kernel
theorem dX4_findIdentified_48 : decode cX4_findIdentified 48 = .ok (.ifCond .eq 7, 3) := by decide +kernel
theorem dX4_findIdentified_51 : decode cX4_findIdentified 51 = .ok (.iconst 1, 1) := by decide +kernel
theorem dX4_findIdentified_52 : decode cX4_findIdentified 52 = .ok (.goto 4, 3) := by decide +kernel
theorem dX4_findIdentified_55 : decode cX4_findIdentified 55 = .ok (.iconst 0, 1) := by decide +kernel
theorem dX4_findIdentified_56 : decode cX4_findIdentified 56 = .ok (.ireturn, 1) := by decide +kernel
set_option maxRecDepth 20000 in
theorem ggX4_countWith_X3_hasRoute : GoodIn wsX4_countWith wsX3_hasRoute := goodIn_r _ [7, 8, 34, 35, 36, 37, 38, 39, 40, 41] (by decide +kernel) (by decide +kernel)
set_option maxRecDepth 20000 in
theorem gX4_countWith_X3_hasRoute : GoodIn wsX4_countWith (wsV RX4 139 RX3 yX3_hasRoute wsX3_hasRoute) := goodIn_app (goodIn_of _ (by decide +kernel)) ggX4_countWith_X3_hasRoute
set_option maxRecDepth 20000 in
theorem ggX4_countWith_X0_determineWith : GoodIn wsX4_countWith wsX0_determineWith := goodIn_r _ [13, 14, 15, 16, 12, 17, 18, 19, 20, 21, 22, 23, 24, 25, 26, 27, 28, 42, 43, 44, 45, 46, 47, 48, 49] (by decide +kernel) (by decide +kernel)
set_option maxRecDepth 20000 in
theorem gX4_countWith_X0_determineWith : GoodIn wsX4_countWith (wsV RX4 199 RX0 yX0_determineWith wsX0_determineWith) := goodIn_app (goodIn_of _ (by decide +kernel)) ggX4_countWith_X0_determineWith
theorem dX4_countWith_0 : decode cX4_countWith 0 = .ok (.iconst 0, 1) := by decide +kernel
theorem dX4_countWith_1 : decode cX4_countWith 1 = .ok (.istore_n 2, 1) := by decide +kernel
theorem dX4_countWith_2 : decode cX4_countWith 2 = .ok (.iconst 0, 1) := by decide +kernel
theorem dX4_countWith_3 : decode cX4_countWith 3 = .ok (.istore_n 3, 1) := by decide +kernel
theorem dX4_countWith_4 : decode cX4_countWith 4 = .ok (.iload_n 3, 1) := by decide +kernel
theorem dX4_countWith_5 : decode cX4_countWith 5 = .ok (.bipush 25, 2) := by decide +kernel
theorem dX4_countWith_7 : decode cX4_countWith 7 = .ok (.if_icmp .ge 35, 3) := by decide +kernel
theorem dX4_countWith_10 : decode cX4_countWith 10 = .ok (.aload_n 0, 1) := by decide +kernel
theorem dX4_countWith_11 : decode cX4_countWith 11 = .ok (.getfield 14, 3) := by decide +kernel
theorem dX4_countWith_14 : decode cX4_countWith 14 = .ok (.iload_n 3, 1) := by decide +kernel
theorem dX4_countWith_15 : decode cX4_countWith 15 = .ok (.invokevirtual 139, 3) := by decide +kernel
theorem dX4_countWith_18 : decode cX4_countWith 18 = .ok (.ifCond .eq 18, 3) := by decide +kernel
theorem dX4_countWith_21 : decode cX4_countWith 21 = .ok (.aload_n 0, 1) := by decide +kernel
theorem dX4_countWith_22 : decode cX4_countWith 22 = .ok (.getfield 32, 3) := by decide +kernel
theorem dX4_countWith_25 : decode cX4_countWith 25 = .ok (.iload_n 1, 1) := by decide +kernel
theorem dX4_countWith_26 : decode cX4_countWith 26 = .ok (.iload_n 3, 1) := by decide +kernel
theorem dX4_countWith_27 : decode cX4_countWith 27 = .ok (.invokevirtual 199, 3) := by decide +kernel
theorem dX4_countWith_30 : decode cX4_countWith 30 = .ok (.ifCond .eq 6, 3) := by decide +kernel
theorem dX4_countWith_33 : decode cX4_countWith 33 = .ok (.iinc 2 1, 3) := by decide +kernel
theorem dX4_countWith_36 : decode cX4_countWith 36 = .ok (.iinc 3 1, 3) := by decide +kernel
theorem dX4_countWith_39 : decode cX4_countWith 39 = .ok (.goto (-35), 3) := by decide +kernel
theorem dX4_countWith_42 : decode cX4_countWith 42 = .ok (.iload_n 2, 1) := by decide +kernel
theorem dX4_countWith_43 : decode cX4_countWith 43 = .ok (.ireturn, 1) := by decide +kernel
end
section
theorem dX5_init_0 : decode cX5_init 0 = .ok (.aload_n 0, 1) := by decide +kernel
theorem dX5_init_1 : decode cX5_init 1 = .ok (.invokespecial 1, 3) := by decide +kernel
theorem dX5_init_4 : decode cX5_init 4 = .ok (.aload_n 0, 1) := by decide +kernel
theorem dX5_init_5 : decode cX5_init 5 = .ok (.bipush 12, 2) := by decide +kernel
theorem dX5_init_7 : decode cX5_init 7 = .ok (.newarray .int, 2) := by decide +kernel
theorem dX5_init_9 : decode cX5_init 9 = .ok (.putfield 7, 3) := by decide +kernel
theorem dX5_init_12 : decode cX5_init 12 = .ok (.aload_n 0, 1) := by decide +kernel
theorem dX5_init_13 : decode cX5_init 13 = .ok (.bipush 12, 2) := by decide +kernel
theorem dX5_init_15 : decode cX5_init 15 = .ok (.newarray .int, 2) := by decide +kernel
theorem dX5_init_17 : decode cX5_init 17 = .ok (.putfield 13, 3) := by decide +kernel
theorem dX5_init_20 : decode cX5_init 20 = .ok (.aload_n 0, 1) := by decide +kernel
theorem dX5_init_21 : decode cX5_init 21 = .ok (.bipush 12, 2) := by decide +kernel
theorem dX5_init_23 : decode cX5_init 23 = .ok (.newarray .int, 2) := by decide +kernel
theorem dX5_init_25 : decode cX5_init 25 = .ok (.putfield 16, 3) := by decide +kernel
theorem dX5_init_28 : decode cX5_init 28 = .ok (.aload_n 0, 1) := by decide +kernel
theorem dX5_init_29 : decode cX5_init 29 = .ok (.bipush 25, 2) := by decide +kernel
theorem dX5_init_31 : decode cX5_init 31 = .ok (.newarray .int, 2) := by decide +kernel
theorem dX5_init_33 : decode cX5_init 33 = .ok (.putfield 19, 3) := by decide +kernel
theorem dX5_init_36 : decode cX5_init 36 = .ok (.aload_n 0, 1) := by decide +kernel
theorem dX5_init_37 : decode cX5_init 37 = .ok (.bipush 12, 2) := by decide +kernel
theorem dX5_init_39 : decode cX5_init 39 = .ok (.newarray .int, 2) := by decide +kernel
theorem dX5_init_41 : decode cX5_init 41 = .ok (.putfield 22, 3) := by decide +kernel
theorem dX5_init_44 : decode cX5_init 44 = .ok (.aload_n 0, 1) := by decide +kernel
theorem dX5_init_45 : decode cX5_init 45 = .ok (.iconst 5, 1) := by decide +kernel
theorem dX5_init_46 : decode cX5_init 46 = .ok (.newarray .int, 2) := by decide +kernel
theorem dX5_init_48 : decode cX5_init 48 = .ok (.putfield 25, 3) := by decide +kernel
theorem dX5_init_51 : decode cX5_init 51 = .ok (.aload_n 0, 1) := by decide +kernel
theorem dX5_init_52 : decode cX5_init 52 = .ok (.iconst 5, 1) := by decide +kernel
theorem dX5_init_53 : decode cX5_init 53 = .ok (.newarray .int, 2) := by decide +kernel
theorem dX5_init_55 : decode cX5_init 55 = .ok (.putfield 28, 3) := by decide +kernel
theorem dX5_init_58 : decode cX5_init 58 = .ok (.aload_n 0, 1) := by decide +kernel
theorem dX5_init_59 : decode cX5_init 59 = .ok (.bipush 25, 2) := by decide +kernel
theorem dX5_init_61 : decode cX5_init 61 = .ok (.newarray .boolean, 2) := by decide +kernel
theorem dX5_init_63 : decode cX5_init 63 = .ok (.putfield 31, 3) := by decide +kernel
theorem dX5_init_66 : decode cX5_init 66 = .ok (.aload_n 0, 1) := by decide +kernel
theorem dX5_init_67 : decode cX5_init 67 = .ok (.bipush 25, 2) := by decide +kernel
theorem dX5_init_69 : decode cX5_init 69 = .ok (.newarray .int, 2) := by decide +kernel
theorem dX5_init_71 : decode cX5_init 71 = .ok (.putfield 35, 3) := by decide +kernel
theorem dX5_init_74 : decode cX5_init 74 = .ok (.aload_n 0, 1) := by decide +kernel
theorem dX5_init_75 : decode cX5_init 75 = .ok (.bipush 25, 2) := by decide +kernel
theorem dX5_init_77 : decode cX5_init 77 = .ok (.newarray .long, 2) := by decide +kernel
theorem dX5_init_79 : decode cX5_init 79 = .ok (.putfield 38, 3) := by decide +kernel
theorem dX5_init_82 : decode cX5_init 82 = .ok (.aload_n 0, 1) := by decide +kernel
theorem dX5_init_83 : decode cX5_init 83 = .ok (.bipush 25, 2) := by decide +kernel
theorem dX5_init_85 : decode cX5_init 85 = .ok (.newarray .int, 2) := by decide +kernel
theorem dX5_init_87 : decode cX5_init 87 = .ok (.putfield 42, 3) := by decide +kernel
theorem dX5_init_90 : decode cX5_init 90 = .ok (.aload_n 0, 1) := by decide +kernel
theorem dX5_init_91 : decode cX5_init 91 = .ok (.bipush 25, 2) := by decide +kernel
theorem dX5_init_93 : decode cX5_init 93 = .ok (.newarray .int, 2) := by decide +kernel
theorem dX5_init_95 : decode cX5_init 95 = .ok (.putfield 45, 3) := by decide +kernel
theorem dX5_init_98 : decode cX5_init 98 = .ok (.aload_n 0, 1) := by decide +kernel
theorem dX5_init_99 : decode cX5_init 99 = .ok (.sipush 312, 3) := by decide +kernel
theorem dX5_init_102 : decode cX5_init 102 = .ok (.newarray .long, 2) := by decide +kernel
theorem dX5_init_104 : decode cX5_init 104 = .ok (.putfield 48, 3) := by decide +kernel
theorem dX5_init_107 : decode cX5_init 107 = .ok (.aload_n 0, 1) := by decide +kernel
theorem dX5_init_108 : decode cX5_init 108 = .ok (.bipush 25, 2) := by decide +kernel
theorem dX5_init_110 : decode cX5_init 110 = .ok (.newarray .int, 2) := by decide +kernel
theorem dX5_init_112 : decode cX5_init 112 = .ok (.putfield 51, 3) := by decide +kernel
theorem dX5_init_115 : decode cX5_init 115 = .ok (.aload_n 0, 1) := by decide +kernel
theorem dX5_init_116 : decode cX5_init 116 = .ok (.bipush 25, 2) := by decide +kernel
theorem dX5_init_118 : decode cX5_init 118 = .ok (.newarray .boolean, 2) := by decide +kernel
theorem dX5_init_120 : decode cX5_init 120 = .ok (.putfield 54, 3) := by decide +kernel
theorem dX5_init_123 : decode cX5_init 123 = .ok (.aload_n 0, 1) := by decide +kernel
theorem dX5_init_124 : decode cX5_init 124 = .ok (.bipush 25, 2) := by decide +kernel
theorem dX5_init_126 : decode cX5_init 126 = .ok (.newarray .long, 2) := by decide +kernel
theorem dX5_init_128 : decode cX5_init 128 = .ok (.putfield 57, 3) := by decide +kernel
theorem dX5_init_131 : decode cX5_init 131 = .ok (.aload_n 0, 1) := by decide +kernel
theorem dX5_init_132 : decode cX5_init 132 = .ok (.iconst 3, 1) := by decide +kernel
theorem dX5_init_133 : decode cX5_init 133 = .ok (.putfield 60, 3) := by decide +kernel
theorem dX5_init_136 : decode cX5_init 136 = .ok (.return_, 1) := by decide +kernel
theorem dX5_within_0 : decode cX5_within 0 = .ok (.iload_n 0, 1) := by decide +kernel
theorem dX5_within_1 : decode cX5_within 1 = .ok (.iload_n 1, 1) := by decide +kernel
theorem dX5_within_2 : decode cX5_within 2 = .ok (.if_icmp .lt 12, 3) := by decide +kernel
theorem dX5_within_5 : decode cX5_within 5 = .ok (.iload_n 0, 1) := by decide +kernel
theorem dX5_within_6 : decode cX5_within 6 = .ok (.iload_n 2, 1) := by decide +kernel
theorem dX5_within_7 : decode cX5_within 7 = .ok (.if_icmp .gt 7, 3) := by decide +kernel
theorem dX5_within_10 : decode cX5_within 10 = .ok (.iconst 1, 1) := by decide +kernel
theorem dX5_within_11 : decode cX5_within 11 = .ok (.goto 4, 3) := by decide +kernel
theorem dX5_within_14 : decode cX5_within 14 = .ok (.iconst 0, 1) := by decide +kernel
theorem dX5_within_15 : decode cX5_within 15 = .ok (.ireturn, 1) := by decide +kernel
set_option maxRecDepth 20000 in
theorem ggX5_isNode_X5_within : GoodIn wsX5_isNode wsX5_within := goodIn_r _ [5] (by decide +kernel) (by decide +kernel)
set_option maxRecDepth 20000 in
theorem gX5_isNode_X5_within : GoodIn wsX5_isNode (va_wsS RX5 64 yX5_within wsX5_within) := goodIn_app (goodIn_of _ (by decide +kernel)) ggX5_isNode_X5_within
theorem dX5_isNode_0 : decode cX5_isNode 0 = .ok (.iload_n 1, 1) := by decide +kernel
theorem dX5_isNode_1 : decode cX5_isNode 1 = .ok (.iconst 0, 1) := by decide +kernel
theorem dX5_isNode_2 : decode cX5_isNode 2 = .ok (.aload_n 0, 1) := by decide +kernel
theorem dX5_isNode_3 : decode cX5_isNode 3 = .ok (.getfield 60, 3) := by decide +kernel
theorem dX5_isNode_6 : decode cX5_isNode 6 = .ok (.iconst 1, 1) := by decide +kernel
theorem dX5_isNode_7 : decode cX5_isNode 7 = .ok (.isub, 1) := by decide +kernel
theorem dX5_isNode_8 : decode cX5_isNode 8 = .ok (.invokestatic 64, 3) := by decide +kernel
theorem dX5_isNode_11 : decode cX5_isNode 11 = .ok (.ireturn, 1) := by decide +kernel
set_option maxRecDepth 20000 in
theorem ggX5_isLink_X5_within : GoodIn wsX5_isLink wsX5_within := goodIn_r _ [5] (by decide +kernel) (by decide +kernel)
set_option maxRecDepth 20000 in
theorem gX5_isLink_X5_within : GoodIn wsX5_isLink (va_wsS RX5 64 yX5_within wsX5_within) := goodIn_app (goodIn_of _ (by decide +kernel)) ggX5_isLink_X5_within
theorem dX5_isLink_0 : decode cX5_isLink 0 = .ok (.iload_n 1, 1) := by decide +kernel
theorem dX5_isLink_1 : decode cX5_isLink 1 = .ok (.iconst 0, 1) := by decide +kernel
theorem dX5_isLink_2 : decode cX5_isLink 2 = .ok (.aload_n 0, 1) := by decide +kernel
theorem dX5_isLink_3 : decode cX5_isLink 3 = .ok (.getfield 68, 3) := by decide +kernel
theorem dX5_isLink_6 : decode cX5_isLink 6 = .ok (.iconst 1, 1) := by decide +kernel
theorem dX5_isLink_7 : decode cX5_isLink 7 = .ok (.isub, 1) := by decide +kernel
theorem dX5_isLink_8 : decode cX5_isLink 8 = .ok (.invokestatic 64, 3) := by decide +kernel
theorem dX5_isLink_11 : decode cX5_isLink 11 = .ok (.ireturn, 1) := by decide +kernel
set_option maxRecDepth 20000 in
theorem ggX5_refused_X5_isNode : GoodIn wsX5_refused wsX5_isNode := goodIn_r _ [5, 6, 7, 8, 4, 9, 10, 11, 12, 13, 14, 15, 16, 17, 18, 19, 20, 21, 22, 23, 24, 25, 26, 27, 28, 29] (by decide +kernel) (by decide +kernel)
set_option maxRecDepth 20000 in
theorem gX5_refused_X5_isNode : GoodIn wsX5_refused (wsV RX5 71 RX5 yX5_isNode wsX5_isNode) := goodIn_app (goodIn_of _ (by decide +kernel)) ggX5_refused_X5_isNode
theorem dX5_refused_0 : decode cX5_refused 0 = .ok (.aload_n 0, 1) := by decide +kernel
theorem dX5_refused_1 : decode cX5_refused 1 = .ok (.iload_n 1, 1) := by decide +kernel
theorem dX5_refused_2 : decode cX5_refused 2 = .ok (.invokevirtual 71, 3) := by decide +kernel
theorem dX5_refused_5 : decode cX5_refused 5 = .ok (.ifCond .eq 11, 3) := by decide +kernel
theorem dX5_refused_8 : decode cX5_refused 8 = .ok (.aload_n 0, 1) := by decide +kernel
theorem dX5_refused_9 : decode cX5_refused 9 = .ok (.iload_n 2, 1) := by decide +kernel
theorem dX5_refused_10 : decode cX5_refused 10 = .ok (.invokevirtual 71, 3) := by decide +kernel
theorem dX5_refused_13 : decode cX5_refused 13 = .ok (.ifCond .ne 7, 3) := by decide +kernel
theorem dX5_refused_16 : decode cX5_refused 16 = .ok (.iconst (-1), 1) := by decide +kernel
theorem dX5_refused_17 : decode cX5_refused 17 = .ok (.goto 14, 3) := by decide +kernel
theorem dX5_refused_20 : decode cX5_refused 20 = .ok (.iload_n 1, 1) := by decide +kernel
theorem dX5_refused_21 : decode cX5_refused 21 = .ok (.iload_n 2, 1) := by decide +kernel
theorem dX5_refused_22 : decode cX5_refused 22 = .ok (.if_icmp .ne 8, 3) := by decide +kernel
theorem dX5_refused_25 : decode cX5_refused 25 = .ok (.bipush (-2), 2) := by decide +kernel
theorem dX5_refused_27 : decode cX5_refused 27 = .ok (.goto 4, 3) := by decide +kernel
theorem dX5_refused_30 : decode cX5_refused 30 = .ok (.iconst 0, 1) := by decide +kernel
theorem dX5_refused_31 : decode cX5_refused 31 = .ok (.ireturn, 1) := by decide +kernel
set_option maxRecDepth 20000 in
theorem ggX5_reset_X5_within : GoodIn wsX5_reset wsX5_within := goodIn_r _ [11] (by decide +kernel) (by decide +kernel)
set_option maxRecDepth 20000 in
theorem gX5_reset_X5_within : GoodIn wsX5_reset (va_wsS RX5 64 yX5_within wsX5_within) := goodIn_app (goodIn_of _ (by decide +kernel)) ggX5_reset_X5_within
theorem dX5_reset_0 : decode cX5_reset 0 = .ok (.iload_n 1, 1) := by decide +kernel
theorem dX5_reset_1 : decode cX5_reset 1 = .ok (.iconst 2, 1) := by decide +kernel
theorem dX5_reset_2 : decode cX5_reset 2 = .ok (.iconst 5, 1) := by decide +kernel
theorem dX5_reset_3 : decode cX5_reset 3 = .ok (.invokestatic 64, 3) := by decide +kernel
theorem dX5_reset_6 : decode cX5_reset 6 = .ok (.ifCond .ne 6, 3) := by decide +kernel
theorem dX5_reset_9 : decode cX5_reset 9 = .ok (.bipush (-4), 2) := by decide +kernel
theorem dX5_reset_11 : decode cX5_reset 11 = .ok (.ireturn, 1) := by decide +kernel
theorem dX5_reset_12 : decode cX5_reset 12 = .ok (.aload_n 0, 1) := by decide +kernel
theorem dX5_reset_13 : decode cX5_reset 13 = .ok (.getfield 68, 3) := by decide +kernel
theorem dX5_reset_16 : decode cX5_reset 16 = .ok (.istore_n 2, 1) := by decide +kernel
theorem dX5_reset_17 : decode cX5_reset 17 = .ok (.aload_n 0, 1) := by decide +kernel
theorem dX5_reset_18 : decode cX5_reset 18 = .ok (.iload_n 1, 1) := by decide +kernel
theorem dX5_reset_19 : decode cX5_reset 19 = .ok (.putfield 60, 3) := by decide +kernel
theorem dX5_reset_22 : decode cX5_reset 22 = .ok (.aload_n 0, 1) := by decide +kernel
theorem dX5_reset_23 : decode cX5_reset 23 = .ok (.iconst 0, 1) := by decide +kernel
theorem dX5_reset_24 : decode cX5_reset 24 = .ok (.putfield 68, 3) := by decide +kernel
theorem dX5_reset_27 : decode cX5_reset 27 = .ok (.iconst 0, 1) := by decide +kernel
theorem dX5_reset_28 : decode cX5_reset 28 = .ok (.istore_n 3, 1) := by decide +kernel
theorem dX5_reset_29 : decode cX5_reset 29 = .ok (.iload_n 3, 1) := by decide +kernel
theorem dX5_reset_30 : decode cX5_reset 30 = .ok (.bipush 25, 2) := by decide +kernel
theorem dX5_reset_32 : decode cX5_reset 32 = .ok (.if_icmp .ge 30, 3) := by decide +kernel
theorem dX5_reset_35 : decode cX5_reset 35 = .ok (.aload_n 0, 1) := by decide +kernel
theorem dX5_reset_36 : decode cX5_reset 36 = .ok (.getfield 19, 3) := by decide +kernel
theorem dX5_reset_39 : decode cX5_reset 39 = .ok (.iload_n 3, 1) := by decide +kernel
theorem dX5_reset_40 : decode cX5_reset 40 = .ok (.iconst 0, 1) := by decide +kernel
theorem dX5_reset_41 : decode cX5_reset 41 = .ok (.iastore, 1) := by decide +kernel
theorem dX5_reset_42 : decode cX5_reset 42 = .ok (.aload_n 0, 1) := by decide +kernel
theorem dX5_reset_43 : decode cX5_reset 43 = .ok (.getfield 31, 3) := by decide +kernel
theorem dX5_reset_46 : decode cX5_reset 46 = .ok (.iload_n 3, 1) := by decide +kernel
theorem dX5_reset_47 : decode cX5_reset 47 = .ok (.iconst 0, 1) := by decide +kernel
theorem dX5_reset_48 : decode cX5_reset 48 = .ok (.bastore, 1) := by decide +kernel
theorem dX5_reset_49 : decode cX5_reset 49 = .ok (.aload_n 0, 1) := by decide +kernel
theorem dX5_reset_50 : decode cX5_reset 50 = .ok (.getfield 38, 3) := by decide +kernel
theorem dX5_reset_53 : decode cX5_reset 53 = .ok (.iload_n 3, 1) := by decide +kernel
theorem dX5_reset_54 : decode cX5_reset 54 = .ok (.lconst 0, 1) := by decide +kernel
theorem dX5_reset_55 : decode cX5_reset 55 = .ok (.lastore, 1) := by decide +kernel
theorem dX5_reset_56 : decode cX5_reset 56 = .ok (.iinc 3 1, 3) := by decide +kernel
theorem dX5_reset_59 : decode cX5_reset 59 = .ok (.goto (-30), 3) := by decide +kernel
theorem dX5_reset_62 : decode cX5_reset 62 = .ok (.iconst 0, 1) := by decide +kernel
theorem dX5_reset_63 : decode cX5_reset 63 = .ok (.istore_n 3, 1) := by decide +kernel
theorem dX5_reset_64 : decode cX5_reset 64 = .ok (.iload_n 3, 1) := by decide +kernel
theorem dX5_reset_65 : decode cX5_reset 65 = .ok (.iconst 5, 1) := by decide +kernel
theorem dX5_reset_66 : decode cX5_reset 66 = .ok (.if_icmp .ge 23, 3) := by decide +kernel
theorem dX5_reset_69 : decode cX5_reset 69 = .ok (.aload_n 0, 1) := by decide +kernel
theorem dX5_reset_70 : decode cX5_reset 70 = .ok (.getfield 25, 3) := by decide +kernel
theorem dX5_reset_73 : decode cX5_reset 73 = .ok (.iload_n 3, 1) := by decide +kernel
theorem dX5_reset_74 : decode cX5_reset 74 = .ok (.iconst 0, 1) := by decide +kernel
theorem dX5_reset_75 : decode cX5_reset 75 = .ok (.iastore, 1) := by decide +kernel
theorem dX5_reset_76 : decode cX5_reset 76 = .ok (.aload_n 0, 1) := by decide +kernel
theorem dX5_reset_77 : decode cX5_reset 77 = .ok (.getfield 28, 3) := by decide +kernel
theorem dX5_reset_80 : decode cX5_reset 80 = .ok (.iload_n 3, 1) := by decide +kernel
theorem dX5_reset_81 : decode cX5_reset 81 = .ok (.iconst 0, 1) := by decide +kernel
theorem dX5_reset_82 : decode cX5_reset 82 = .ok (.iastore, 1) := by decide +kernel
theorem dX5_reset_83 : decode cX5_reset 83 = .ok (.iinc 3 1, 3) := by decide +kernel
theorem dX5_reset_86 : decode cX5_reset 86 = .ok (.goto (-22), 3) := by decide +kernel
theorem dX5_reset_89 : decode cX5_reset 89 = .ok (.iload_n 2, 1) := by decide +kernel
theorem dX5_reset_90 : decode cX5_reset 90 = .ok (.ireturn, 1) := by decide +kernel
set_option maxRecDepth 20000 in
theorem ggX5_addLink_X5_refused : GoodIn wsX5_addLink wsX5_refused := goodIn_r _ [10, 11, 12, 13, 9, 14, 15, 16, 17, 18, 19, 20, 21, 22, 23, 24, 25, 26, 27, 28, 29, 30, 31, 32, 33, 34, 35, 36, 37, 38] (by decide +kernel) (by decide +kernel)
set_option maxRecDepth 20000 in
theorem gX5_addLink_X5_refused : GoodIn wsX5_addLink (wsV RX5 75 RX5 yX5_refused wsX5_refused) := goodIn_app (goodIn_of _ (by decide +kernel)) ggX5_addLink_X5_refused
set_option maxRecDepth 20000 in
theorem ggX5_addLink_X5_within : GoodIn wsX5_addLink wsX5_within := goodIn_r _ [18] (by decide +kernel) (by decide +kernel)
set_option maxRecDepth 20000 in
theorem gX5_addLink_X5_within : GoodIn wsX5_addLink (va_wsS RX5 64 yX5_within wsX5_within) := goodIn_app (goodIn_of _ (by decide +kernel)) ggX5_addLink_X5_within
theorem dX5_addLink_0 : decode cX5_addLink 0 = .ok (.aload_n 0, 1) := by decide +kernel
theorem dX5_addLink_1 : decode cX5_addLink 1 = .ok (.iload_n 1, 1) := by decide +kernel
theorem dX5_addLink_2 : decode cX5_addLink 2 = .ok (.iload_n 2, 1) := by decide +kernel
theorem dX5_addLink_3 : decode cX5_addLink 3 = .ok (.invokevirtual 75, 3) := by decide +kernel
theorem dX5_addLink_6 : decode cX5_addLink 6 = .ok (.istore 4, 2) := by decide +kernel
theorem dX5_addLink_8 : decode cX5_addLink 8 = .ok (.iload 4, 2) := by decide +kernel
theorem dX5_addLink_10 : decode cX5_addLink 10 = .ok (.ifCond .eq 6, 3) := by decide +kernel
theorem dX5_addLink_13 : decode cX5_addLink 13 = .ok (.iload 4, 2) := by decide +kernel
theorem dX5_addLink_15 : decode cX5_addLink 15 = .ok (.ireturn, 1) := by decide +kernel
theorem dX5_addLink_16 : decode cX5_addLink 16 = .ok (.iload_n 3, 1) := by decide +kernel
theorem dX5_addLink_17 : decode cX5_addLink 17 = .ok (.iconst 1, 1) := by decide +kernel
theorem dX5_addLink_18 : decode cX5_addLink 18 = .ok (.bipush 99, 2) := by decide +kernel
theorem dX5_addLink_20 : decode cX5_addLink 20 = .ok (.invokestatic 64, 3) := by decide +kernel
theorem dX5_addLink_23 : decode cX5_addLink 23 = .ok (.ifCond .ne 6, 3) := by decide +kernel
theorem dX5_addLink_26 : decode cX5_addLink 26 = .ok (.bipush (-4), 2) := by decide +kernel
theorem dX5_addLink_28 : decode cX5_addLink 28 = .ok (.ireturn, 1) := by decide +kernel
theorem dX5_addLink_29 : decode cX5_addLink 29 = .ok (.aload_n 0, 1) := by decide +kernel
theorem dX5_addLink_30 : decode cX5_addLink 30 = .ok (.getfield 68, 3) := by decide +kernel
theorem dX5_addLink_33 : decode cX5_addLink 33 = .ok (.bipush 12, 2) := by decide +kernel
theorem dX5_addLink_35 : decode cX5_addLink 35 = .ok (.if_icmp .ne 6, 3) := by decide +kernel
theorem dX5_addLink_38 : decode cX5_addLink 38 = .ok (.bipush (-5), 2) := by decide +kernel
theorem dX5_addLink_40 : decode cX5_addLink 40 = .ok (.ireturn, 1) := by decide +kernel
theorem dX5_addLink_41 : decode cX5_addLink 41 = .ok (.aload_n 0, 1) := by decide +kernel
theorem dX5_addLink_42 : decode cX5_addLink 42 = .ok (.getfield 7, 3) := by decide +kernel
theorem dX5_addLink_45 : decode cX5_addLink 45 = .ok (.aload_n 0, 1) := by decide +kernel
theorem dX5_addLink_46 : decode cX5_addLink 46 = .ok (.getfield 68, 3) := by decide +kernel
theorem dX5_addLink_49 : decode cX5_addLink 49 = .ok (.iload_n 1, 1) := by decide +kernel
theorem dX5_addLink_50 : decode cX5_addLink 50 = .ok (.iastore, 1) := by decide +kernel
theorem dX5_addLink_51 : decode cX5_addLink 51 = .ok (.aload_n 0, 1) := by decide +kernel
theorem dX5_addLink_52 : decode cX5_addLink 52 = .ok (.getfield 13, 3) := by decide +kernel
theorem dX5_addLink_55 : decode cX5_addLink 55 = .ok (.aload_n 0, 1) := by decide +kernel
theorem dX5_addLink_56 : decode cX5_addLink 56 = .ok (.getfield 68, 3) := by decide +kernel
theorem dX5_addLink_59 : decode cX5_addLink 59 = .ok (.iload_n 2, 1) := by decide +kernel
theorem dX5_addLink_60 : decode cX5_addLink 60 = .ok (.iastore, 1) := by decide +kernel
theorem dX5_addLink_61 : decode cX5_addLink 61 = .ok (.aload_n 0, 1) := by decide +kernel
theorem dX5_addLink_62 : decode cX5_addLink 62 = .ok (.getfield 16, 3) := by decide +kernel
theorem dX5_addLink_65 : decode cX5_addLink 65 = .ok (.aload_n 0, 1) := by decide +kernel
theorem dX5_addLink_66 : decode cX5_addLink 66 = .ok (.getfield 68, 3) := by decide +kernel
theorem dX5_addLink_69 : decode cX5_addLink 69 = .ok (.iload_n 3, 1) := by decide +kernel
theorem dX5_addLink_70 : decode cX5_addLink 70 = .ok (.iastore, 1) := by decide +kernel
theorem dX5_addLink_71 : decode cX5_addLink 71 = .ok (.aload_n 0, 1) := by decide +kernel
theorem dX5_addLink_72 : decode cX5_addLink 72 = .ok (.getfield 22, 3) := by decide +kernel
theorem dX5_addLink_75 : decode cX5_addLink 75 = .ok (.aload_n 0, 1) := by decide +kernel
theorem dX5_addLink_76 : decode cX5_addLink 76 = .ok (.getfield 68, 3) := by decide +kernel
theorem dX5_addLink_79 : decode cX5_addLink 79 = .ok (.iconst 0, 1) := by decide +kernel
theorem dX5_addLink_80 : decode cX5_addLink 80 = .ok (.iastore, 1) := by decide +kernel
theorem dX5_addLink_81 : decode cX5_addLink 81 = .ok (.aload_n 0, 1) := by decide +kernel
theorem dX5_addLink_82 : decode cX5_addLink 82 = .ok (.dup, 1) := by decide +kernel
theorem dX5_addLink_83 : decode cX5_addLink 83 = .ok (.getfield 68, 3) := by decide +kernel
theorem dX5_addLink_86 : decode cX5_addLink 86 = .ok (.iconst 1, 1) := by decide +kernel
theorem dX5_addLink_87 : decode cX5_addLink 87 = .ok (.iadd, 1) := by decide +kernel
theorem dX5_addLink_88 : decode cX5_addLink 88 = .ok (.putfield 68, 3) := by decide +kernel
theorem dX5_addLink_91 : decode cX5_addLink 91 = .ok (.aload_n 0, 1) := by decide +kernel
theorem dX5_addLink_92 : decode cX5_addLink 92 = .ok (.getfield 68, 3) := by decide +kernel
theorem dX5_addLink_95 : decode cX5_addLink 95 = .ok (.iconst 1, 1) := by decide +kernel
theorem dX5_addLink_96 : decode cX5_addLink 96 = .ok (.isub, 1) := by decide +kernel
theorem dX5_addLink_97 : decode cX5_addLink 97 = .ok (.ireturn, 1) := by decide +kernel
set_option maxRecDepth 20000 in
theorem ggX5_setMetric_X5_isLink : GoodIn wsX5_setMetric wsX5_isLink := goodIn_r _ [6, 7, 8, 9, 5, 10, 11, 12, 13, 14, 15, 16, 17, 18, 19, 20, 21, 22, 23, 24, 25, 26, 27, 28, 29, 30] (by decide +kernel) (by decide +kernel)
set_option maxRecDepth 20000 in
theorem gX5_setMetric_X5_isLink : GoodIn wsX5_setMetric (wsV RX5 79 RX5 yX5_isLink wsX5_isLink) := goodIn_app (goodIn_of _ (by decide +kernel)) ggX5_setMetric_X5_isLink
set_option maxRecDepth 20000 in
theorem ggX5_setMetric_X5_within : GoodIn wsX5_setMetric wsX5_within := goodIn_r _ [10] (by decide +kernel) (by decide +kernel)
set_option maxRecDepth 20000 in
theorem gX5_setMetric_X5_within : GoodIn wsX5_setMetric (va_wsS RX5 64 yX5_within wsX5_within) := goodIn_app (goodIn_of _ (by decide +kernel)) ggX5_setMetric_X5_within
theorem dX5_setMetric_0 : decode cX5_setMetric 0 = .ok (.aload_n 0, 1) := by decide +kernel
theorem dX5_setMetric_1 : decode cX5_setMetric 1 = .ok (.iload_n 1, 1) := by decide +kernel
theorem dX5_setMetric_2 : decode cX5_setMetric 2 = .ok (.invokevirtual 79, 3) := by decide +kernel
theorem dX5_setMetric_5 : decode cX5_setMetric 5 = .ok (.ifCond .ne 6, 3) := by decide +kernel
theorem dX5_setMetric_8 : decode cX5_setMetric 8 = .ok (.bipush (-3), 2) := by decide +kernel
theorem dX5_setMetric_10 : decode cX5_setMetric 10 = .ok (.ireturn, 1) := by decide +kernel
theorem dX5_setMetric_11 : decode cX5_setMetric 11 = .ok (.iload_n 2, 1) := by decide +kernel
theorem dX5_setMetric_12 : decode cX5_setMetric 12 = .ok (.iconst 1, 1) := by decide +kernel
theorem dX5_setMetric_13 : decode cX5_setMetric 13 = .ok (.bipush 99, 2) := by decide +kernel
theorem dX5_setMetric_15 : decode cX5_setMetric 15 = .ok (.invokestatic 64, 3) := by decide +kernel
theorem dX5_setMetric_18 : decode cX5_setMetric 18 = .ok (.ifCond .ne 6, 3) := by decide +kernel
theorem dX5_setMetric_21 : decode cX5_setMetric 21 = .ok (.bipush (-4), 2) := by decide +kernel
theorem dX5_setMetric_23 : decode cX5_setMetric 23 = .ok (.ireturn, 1) := by decide +kernel
theorem dX5_setMetric_24 : decode cX5_setMetric 24 = .ok (.aload_n 0, 1) := by decide +kernel
theorem dX5_setMetric_25 : decode cX5_setMetric 25 = .ok (.getfield 16, 3) := by decide +kernel
theorem dX5_setMetric_28 : decode cX5_setMetric 28 = .ok (.iload_n 1, 1) := by decide +kernel
theorem dX5_setMetric_29 : decode cX5_setMetric 29 = .ok (.iaload, 1) := by decide +kernel
theorem dX5_setMetric_30 : decode cX5_setMetric 30 = .ok (.istore_n 3, 1) := by decide +kernel
theorem dX5_setMetric_31 : decode cX5_setMetric 31 = .ok (.aload_n 0, 1) := by decide +kernel
theorem dX5_setMetric_32 : decode cX5_setMetric 32 = .ok (.getfield 16, 3) := by decide +kernel
theorem dX5_setMetric_35 : decode cX5_setMetric 35 = .ok (.iload_n 1, 1) := by decide +kernel
theorem dX5_setMetric_36 : decode cX5_setMetric 36 = .ok (.iload_n 2, 1) := by decide +kernel
theorem dX5_setMetric_37 : decode cX5_setMetric 37 = .ok (.iastore, 1) := by decide +kernel
theorem dX5_setMetric_38 : decode cX5_setMetric 38 = .ok (.iload_n 3, 1) := by decide +kernel
theorem dX5_setMetric_39 : decode cX5_setMetric 39 = .ok (.ireturn, 1) := by decide +kernel
theorem dX5_costOf_0 : decode cX5_costOf 0 = .ok (.bipush 10, 2) := by decide +kernel
theorem dX5_costOf_2 : decode cX5_costOf 2 = .ok (.aload_n 0, 1) := by decide +kernel
theorem dX5_costOf_3 : decode cX5_costOf 3 = .ok (.getfield 16, 3) := by decide +kernel
theorem dX5_costOf_6 : decode cX5_costOf 6 = .ok (.iload_n 1, 1) := by decide +kernel
theorem dX5_costOf_7 : decode cX5_costOf 7 = .ok (.iaload, 1) := by decide +kernel
theorem dX5_costOf_8 : decode cX5_costOf 8 = .ok (.imul, 1) := by decide +kernel
theorem dX5_costOf_9 : decode cX5_costOf 9 = .ok (.iconst 1, 1) := by decide +kernel
theorem dX5_costOf_10 : decode cX5_costOf 10 = .ok (.iadd, 1) := by decide +kernel
theorem dX5_costOf_11 : decode cX5_costOf 11 = .ok (.ireturn, 1) := by decide +kernel
set_option maxRecDepth 20000 in
theorem ggX5_findRoutes_X5_costOf : GoodIn wsX5_findRoutes wsX5_costOf := goodIn_r _ [12, 13, 26, 27, 28, 29, 30, 31, 32, 33, 34, 35, 36, 37, 38, 39, 40, 41, 42, 43, 44, 45] (by decide +kernel) (by decide +kernel)
set_option maxRecDepth 20000 in
theorem gX5_findRoutes_X5_costOf : GoodIn wsX5_findRoutes (wsV RX5 83 RX5 yX5_costOf wsX5_costOf) := goodIn_app (goodIn_of _ (by decide +kernel)) ggX5_findRoutes_X5_costOf
set_option maxRecDepth 20000 in
theorem ggX5_findRoutes_X5_isPair : GoodIn wsX5_findRoutes wsX5_isPair := goodIn_r _ [17, 4, 26, 27, 28, 29, 30, 31, 32, 33, 34, 35, 36, 37, 38, 39, 40, 41, 42, 43, 44, 45] (by decide +kernel) (by decide +kernel)
set_option maxRecDepth 20000 in
theorem gX5_findRoutes_X5_isPair : GoodIn wsX5_findRoutes (wsV RX5 87 RX5 yX5_isPair wsX5_isPair) := goodIn_app (goodIn_of _ (by decide +kernel)) ggX5_findRoutes_X5_isPair
set_option maxRecDepth 20000 in
theorem ggX5_findRoutes_X5_routeBits : GoodIn wsX5_findRoutes wsX5_routeBits := goodIn_r _ [21, 5, 22, 23, 24, 11, 25, 6, 1, 8, 9, 10, 12, 13, 26, 27, 28, 29, 30, 31, 32, 33, 34, 35, 36, 37, 38, 39, 40, 41, 42, 43, 44, 45] (by decide +kernel) (by decide +kernel)
set_option maxRecDepth 20000 in
theorem gX5_findRoutes_X5_routeBits : GoodIn wsX5_findRoutes (wsV RX5 90 RX5 yX5_routeBits wsX5_routeBits) := goodIn_app (goodIn_of _ (by decide +kernel)) ggX5_findRoutes_X5_routeBits
theorem dX5_findRoutes_0 : decode cX5_findRoutes 0 = .ok (.iconst 0, 1) := by decide +kernel
theorem dX5_findRoutes_1 : decode cX5_findRoutes 1 = .ok (.istore_n 1, 1) := by decide +kernel
theorem dX5_findRoutes_2 : decode cX5_findRoutes 2 = .ok (.iload_n 1, 1) := by decide +kernel
theorem dX5_findRoutes_3 : decode cX5_findRoutes 3 = .ok (.bipush 25, 2) := by decide +kernel
theorem dX5_findRoutes_5 : decode cX5_findRoutes 5 = .ok (.if_icmp .ge 30, 3) := by decide +kernel
theorem dX5_findRoutes_8 : decode cX5_findRoutes 8 = .ok (.aload_n 0, 1) := by decide +kernel
theorem dX5_findRoutes_9 : decode cX5_findRoutes 9 = .ok (.getfield 42, 3) := by decide +kernel
theorem dX5_findRoutes_12 : decode cX5_findRoutes 12 = .ok (.iload_n 1, 1) := by decide +kernel
theorem dX5_findRoutes_13 : decode cX5_findRoutes 13 = .ok (.iload_n 1, 1) := by decide +kernel
theorem dX5_findRoutes_14 : decode cX5_findRoutes 14 = .ok (.iconst 5, 1) := by decide +kernel
theorem dX5_findRoutes_15 : decode cX5_findRoutes 15 = .ok (.idiv, 1) := by decide +kernel
theorem dX5_findRoutes_16 : decode cX5_findRoutes 16 = .ok (.iload_n 1, 1) := by decide +kernel
theorem dX5_findRoutes_17 : decode cX5_findRoutes 17 = .ok (.iconst 5, 1) := by decide +kernel
theorem dX5_findRoutes_18 : decode cX5_findRoutes 18 = .ok (.irem, 1) := by decide +kernel
theorem dX5_findRoutes_19 : decode cX5_findRoutes 19 = .ok (.if_icmp .ne 7, 3) := by decide +kernel
theorem dX5_findRoutes_22 : decode cX5_findRoutes 22 = .ok (.iconst 0, 1) := by decide +kernel
theorem dX5_findRoutes_23 : decode cX5_findRoutes 23 = .ok (.goto 5, 3) := by decide +kernel
theorem dX5_findRoutes_26 : decode cX5_findRoutes 26 = .ok (.ldc 82, 2) := by decide +kernel
theorem dX5_findRoutes_28 : decode cX5_findRoutes 28 = .ok (.iastore, 1) := by decide +kernel
theorem dX5_findRoutes_29 : decode cX5_findRoutes 29 = .ok (.iinc 1 1, 3) := by decide +kernel
theorem dX5_findRoutes_32 : decode cX5_findRoutes 32 = .ok (.goto (-30), 3) := by decide +kernel
theorem dX5_findRoutes_35 : decode cX5_findRoutes 35 = .ok (.iconst 0, 1) := by decide +kernel
theorem dX5_findRoutes_36 : decode cX5_findRoutes 36 = .ok (.istore_n 1, 1) := by decide +kernel
theorem dX5_findRoutes_37 : decode cX5_findRoutes 37 = .ok (.iload_n 1, 1) := by decide +kernel
theorem dX5_findRoutes_38 : decode cX5_findRoutes 38 = .ok (.iconst 5, 1) := by decide +kernel
theorem dX5_findRoutes_39 : decode cX5_findRoutes 39 = .ok (.if_icmp .ge 107, 3) := by decide +kernel
theorem dX5_findRoutes_42 : decode cX5_findRoutes 42 = .ok (.iconst 0, 1) := by decide +kernel
theorem dX5_findRoutes_43 : decode cX5_findRoutes 43 = .ok (.istore_n 2, 1) := by decide +kernel
theorem dX5_findRoutes_44 : decode cX5_findRoutes 44 = .ok (.iload_n 2, 1) := by decide +kernel
theorem dX5_findRoutes_45 : decode cX5_findRoutes 45 = .ok (.aload_n 0, 1) := by decide +kernel
theorem dX5_findRoutes_46 : decode cX5_findRoutes 46 = .ok (.getfield 68, 3) := by decide +kernel
theorem dX5_findRoutes_49 : decode cX5_findRoutes 49 = .ok (.if_icmp .ge 91, 3) := by decide +kernel
theorem dX5_findRoutes_52 : decode cX5_findRoutes 52 = .ok (.iconst 0, 1) := by decide +kernel
theorem dX5_findRoutes_53 : decode cX5_findRoutes 53 = .ok (.istore_n 3, 1) := by decide +kernel
theorem dX5_findRoutes_54 : decode cX5_findRoutes 54 = .ok (.iload_n 3, 1) := by decide +kernel
theorem dX5_findRoutes_55 : decode cX5_findRoutes 55 = .ok (.aload_n 0, 1) := by decide +kernel
theorem dX5_findRoutes_56 : decode cX5_findRoutes 56 = .ok (.getfield 60, 3) := by decide +kernel
theorem dX5_findRoutes_59 : decode cX5_findRoutes 59 = .ok (.if_icmp .ge 75, 3) := by decide +kernel
theorem dX5_findRoutes_62 : decode cX5_findRoutes 62 = .ok (.aload_n 0, 1) := by decide +kernel
theorem dX5_findRoutes_63 : decode cX5_findRoutes 63 = .ok (.iload_n 2, 1) := by decide +kernel
theorem dX5_findRoutes_64 : decode cX5_findRoutes 64 = .ok (.invokevirtual 83, 3) := by decide +kernel
theorem dX5_findRoutes_67 : decode cX5_findRoutes 67 = .ok (.aload_n 0, 1) := by decide +kernel
theorem dX5_findRoutes_68 : decode cX5_findRoutes 68 = .ok (.getfield 42, 3) := by decide +kernel
theorem dX5_findRoutes_71 : decode cX5_findRoutes 71 = .ok (.iconst 5, 1) := by decide +kernel
theorem dX5_findRoutes_72 : decode cX5_findRoutes 72 = .ok (.aload_n 0, 1) := by decide +kernel
theorem dX5_findRoutes_73 : decode cX5_findRoutes 73 = .ok (.getfield 13, 3) := by decide +kernel
theorem dX5_findRoutes_76 : decode cX5_findRoutes 76 = .ok (.iload_n 2, 1) := by decide +kernel
theorem dX5_findRoutes_77 : decode cX5_findRoutes 77 = .ok (.iaload, 1) := by decide +kernel
theorem dX5_findRoutes_78 : decode cX5_findRoutes 78 = .ok (.imul, 1) := by decide +kernel
theorem dX5_findRoutes_79 : decode cX5_findRoutes 79 = .ok (.iload_n 3, 1) := by decide +kernel
theorem dX5_findRoutes_80 : decode cX5_findRoutes 80 = .ok (.iadd, 1) := by decide +kernel
theorem dX5_findRoutes_81 : decode cX5_findRoutes 81 = .ok (.iaload, 1) := by decide +kernel
theorem dX5_findRoutes_82 : decode cX5_findRoutes 82 = .ok (.iadd, 1) := by decide +kernel
theorem dX5_findRoutes_83 : decode cX5_findRoutes 83 = .ok (.istore 4, 2) := by decide +kernel
theorem dX5_findRoutes_85 : decode cX5_findRoutes 85 = .ok (.iconst 5, 1) := by decide +kernel
theorem dX5_findRoutes_86 : decode cX5_findRoutes 86 = .ok (.aload_n 0, 1) := by decide +kernel
theorem dX5_findRoutes_87 : decode cX5_findRoutes 87 = .ok (.getfield 7, 3) := by decide +kernel
theorem dX5_findRoutes_90 : decode cX5_findRoutes 90 = .ok (.iload_n 2, 1) := by decide +kernel
theorem dX5_findRoutes_91 : decode cX5_findRoutes 91 = .ok (.iaload, 1) := by decide +kernel
theorem dX5_findRoutes_92 : decode cX5_findRoutes 92 = .ok (.imul, 1) := by decide +kernel
theorem dX5_findRoutes_93 : decode cX5_findRoutes 93 = .ok (.iload_n 3, 1) := by decide +kernel
theorem dX5_findRoutes_94 : decode cX5_findRoutes 94 = .ok (.iadd, 1) := by decide +kernel
theorem dX5_findRoutes_95 : decode cX5_findRoutes 95 = .ok (.istore 5, 2) := by decide +kernel
theorem dX5_findRoutes_97 : decode cX5_findRoutes 97 = .ok (.aload_n 0, 1) := by decide +kernel
theorem dX5_findRoutes_98 : decode cX5_findRoutes 98 = .ok (.getfield 42, 3) := by decide +kernel
theorem dX5_findRoutes_101 : decode cX5_findRoutes 101 = .ok (.iload 5, 2) := by decide +kernel
theorem dX5_findRoutes_103 : decode cX5_findRoutes 103 = .ok (.iload 4, 2) := by decide +kernel
theorem dX5_findRoutes_105 : decode cX5_findRoutes 105 = .ok (.aload_n 0, 1) := by decide +kernel
theorem dX5_findRoutes_106 : decode cX5_findRoutes 106 = .ok (.getfield 42, 3) := by decide +kernel
theorem dX5_findRoutes_109 : decode cX5_findRoutes 109 = .ok (.iload 5, 2) := by decide +kernel
theorem dX5_findRoutes_111 : decode cX5_findRoutes 111 = .ok (.iaload, 1) := by decide +kernel
theorem dX5_findRoutes_112 : decode cX5_findRoutes 112 = .ok (.if_icmp .ge 8, 3) := by decide +kernel
theorem dX5_findRoutes_115 : decode cX5_findRoutes 115 = .ok (.iload 4, 2) := by decide +kernel
theorem dX5_findRoutes_117 : decode cX5_findRoutes 117 = .ok (.goto 10, 3) := by decide +kernel
theorem dX5_findRoutes_120 : decode cX5_findRoutes 120 = .ok (.aload_n 0, 1) := by decide +kernel
theorem dX5_findRoutes_121 : decode cX5_findRoutes 121 = .ok (.getfield 42, 3) := by decide +kernel
theorem dX5_findRoutes_124 : decode cX5_findRoutes 124 = .ok (.iload 5, 2) := by decide +kernel
theorem dX5_findRoutes_126 : decode cX5_findRoutes 126 = .ok (.iaload, 1) := by decide +kernel
theorem dX5_findRoutes_127 : decode cX5_findRoutes 127 = .ok (.iastore, 1) := by decide +kernel
theorem dX5_findRoutes_128 : decode cX5_findRoutes 128 = .ok (.iinc 3 1, 3) := by decide +kernel
theorem dX5_findRoutes_131 : decode cX5_findRoutes 131 = .ok (.goto (-77), 3) := by decide +kernel
theorem dX5_findRoutes_134 : decode cX5_findRoutes 134 = .ok (.iinc 2 1, 3) := by decide +kernel
theorem dX5_findRoutes_137 : decode cX5_findRoutes 137 = .ok (.goto (-93), 3) := by decide +kernel
theorem dX5_findRoutes_140 : decode cX5_findRoutes 140 = .ok (.iinc 1 1, 3) := by decide +kernel
theorem dX5_findRoutes_143 : decode cX5_findRoutes 143 = .ok (.goto (-106), 3) := by decide +kernel
theorem dX5_findRoutes_146 : decode cX5_findRoutes 146 = .ok (.iconst 0, 1) := by decide +kernel
theorem dX5_findRoutes_147 : decode cX5_findRoutes 147 = .ok (.istore_n 1, 1) := by decide +kernel
theorem dX5_findRoutes_148 : decode cX5_findRoutes 148 = .ok (.iload_n 1, 1) := by decide +kernel
theorem dX5_findRoutes_149 : decode cX5_findRoutes 149 = .ok (.bipush 25, 2) := by decide +kernel
theorem dX5_findRoutes_151 : decode cX5_findRoutes 151 = .ok (.if_icmp .ge 43, 3) := by decide +kernel
theorem dX5_findRoutes_154 : decode cX5_findRoutes 154 = .ok (.aload_n 0, 1) := by decide +kernel
theorem dX5_findRoutes_155 : decode cX5_findRoutes 155 = .ok (.getfield 45, 3) := by decide +kernel
theorem dX5_findRoutes_158 : decode cX5_findRoutes 158 = .ok (.iload_n 1, 1) := by decide +kernel
theorem dX5_findRoutes_159 : decode cX5_findRoutes 159 = .ok (.aload_n 0, 1) := by decide +kernel
theorem dX5_findRoutes_160 : decode cX5_findRoutes 160 = .ok (.iload_n 1, 1) := by decide +kernel
theorem dX5_findRoutes_161 : decode cX5_findRoutes 161 = .ok (.invokevirtual 87, 3) := by decide +kernel
theorem dX5_findRoutes_164 : decode cX5_findRoutes 164 = .ok (.ifCond .eq 22, 3) := by decide +kernel
theorem dX5_findRoutes_167 : decode cX5_findRoutes 167 = .ok (.aload_n 0, 1) := by decide +kernel
theorem dX5_findRoutes_168 : decode cX5_findRoutes 168 = .ok (.getfield 42, 3) := by decide +kernel
theorem dX5_findRoutes_171 : decode cX5_findRoutes 171 = .ok (.iload_n 1, 1) := by decide +kernel
theorem dX5_findRoutes_172 : decode cX5_findRoutes 172 = .ok (.iaload, 1) := by decide +kernel
theorem dX5_findRoutes_173 : decode cX5_findRoutes 173 = .ok (.ldc 82, 2) := by decide +kernel
theorem dX5_findRoutes_175 : decode cX5_findRoutes 175 = .ok (.if_icmp .ge 11, 3) := by decide +kernel
theorem dX5_findRoutes_178 : decode cX5_findRoutes 178 = .ok (.aload_n 0, 1) := by decide +kernel
theorem dX5_findRoutes_179 : decode cX5_findRoutes 179 = .ok (.iload_n 1, 1) := by decide +kernel
theorem dX5_findRoutes_180 : decode cX5_findRoutes 180 = .ok (.invokevirtual 90, 3) := by decide +kernel
theorem dX5_findRoutes_183 : decode cX5_findRoutes 183 = .ok (.goto 4, 3) := by decide +kernel
theorem dX5_findRoutes_186 : decode cX5_findRoutes 186 = .ok (.iconst 0, 1) := by decide +kernel
theorem dX5_findRoutes_187 : decode cX5_findRoutes 187 = .ok (.iastore, 1) := by decide +kernel
theorem dX5_findRoutes_188 : decode cX5_findRoutes 188 = .ok (.iinc 1 1, 3) := by decide +kernel
theorem dX5_findRoutes_191 : decode cX5_findRoutes 191 = .ok (.goto (-43), 3) := by decide +kernel
theorem dX5_findRoutes_194 : decode cX5_findRoutes 194 = .ok (.return_, 1) := by decide +kernel
theorem dX5_isPair_0 : decode cX5_isPair 0 = .ok (.iload_n 1, 1) := by decide +kernel
theorem dX5_isPair_1 : decode cX5_isPair 1 = .ok (.iconst 5, 1) := by decide +kernel
theorem dX5_isPair_2 : decode cX5_isPair 2 = .ok (.idiv, 1) := by decide +kernel
theorem dX5_isPair_3 : decode cX5_isPair 3 = .ok (.iload_n 1, 1) := by decide +kernel
theorem dX5_isPair_4 : decode cX5_isPair 4 = .ok (.iconst 5, 1) := by decide +kernel
theorem dX5_isPair_5 : decode cX5_isPair 5 = .ok (.irem, 1) := by decide +kernel
theorem dX5_isPair_6 : decode cX5_isPair 6 = .ok (.if_icmp .eq 27, 3) := by decide +kernel
theorem dX5_isPair_9 : decode cX5_isPair 9 = .ok (.iload_n 1, 1) := by decide +kernel
theorem dX5_isPair_10 : decode cX5_isPair 10 = .ok (.iconst 5, 1) := by decide +kernel
theorem dX5_isPair_11 : decode cX5_isPair 11 = .ok (.idiv, 1) := by decide +kernel
theorem dX5_isPair_12 : decode cX5_isPair 12 = .ok (.aload_n 0, 1) := by decide +kernel
theorem dX5_isPair_13 : decode cX5_isPair 13 = .ok (.getfield 60, 3) := by decide +kernel
theorem dX5_isPair_16 : decode cX5_isPair 16 = .ok (.if_icmp .ge 17, 3) := by decide +kernel
theorem dX5_isPair_19 : decode cX5_isPair 19 = .ok (.iload_n 1, 1) := by decide +kernel
theorem dX5_isPair_20 : decode cX5_isPair 20 = .ok (.iconst 5, 1) := by decide +kernel
theorem dX5_isPair_21 : decode cX5_isPair 21 = .ok (.irem, 1) := by decide +kernel
theorem dX5_isPair_22 : decode cX5_isPair 22 = .ok (.aload_n 0, 1) := by decide +kernel
theorem dX5_isPair_23 : decode cX5_isPair 23 = .ok (.getfield 60, 3) := by decide +kernel
theorem dX5_isPair_26 : decode cX5_isPair 26 = .ok (.if_icmp .ge 7, 3) := by decide +kernel
theorem dX5_isPair_29 : decode cX5_isPair 29 = .ok (.iconst 1, 1) := by decide +kernel
theorem dX5_isPair_30 : decode cX5_isPair 30 = .ok (.goto 4, 3) := by decide +kernel
theorem dX5_isPair_33 : decode cX5_isPair 33 = .ok (.iconst 0, 1) := by decide +kernel
theorem dX5_isPair_34 : decode cX5_isPair 34 = .ok (.ireturn, 1) := by decide +kernel
set_option maxRecDepth 20000 in
theorem ggX5_nextLink_X5_costOf : GoodIn wsX5_nextLink wsX5_costOf := goodIn_r _ [8, 9, 10, 11, 12, 13, 14, 15, 16, 17, 18, 19, 20, 21, 22, 23, 24, 25, 26, 27, 28, 29] (by decide +kernel) (by decide +kernel)
set_option maxRecDepth 20000 in
theorem gX5_nextLink_X5_costOf : GoodIn wsX5_nextLink (wsV RX5 83 RX5 yX5_costOf wsX5_costOf) := goodIn_app (goodIn_of _ (by decide +kernel)) ggX5_nextLink_X5_costOf
theorem dX5_nextLink_0 : decode cX5_nextLink 0 = .ok (.iconst 0, 1) := by decide +kernel
theorem dX5_nextLink_1 : decode cX5_nextLink 1 = .ok (.istore_n 3, 1) := by decide +kernel
theorem dX5_nextLink_2 : decode cX5_nextLink 2 = .ok (.aload_n 0, 1) := by decide +kernel
theorem dX5_nextLink_3 : decode cX5_nextLink 3 = .ok (.getfield 7, 3) := by decide +kernel
theorem dX5_nextLink_6 : decode cX5_nextLink 6 = .ok (.iload_n 3, 1) := by decide +kernel
theorem dX5_nextLink_7 : decode cX5_nextLink 7 = .ok (.iaload, 1) := by decide +kernel
theorem dX5_nextLink_8 : decode cX5_nextLink 8 = .ok (.iload_n 1, 1) := by decide +kernel
theorem dX5_nextLink_9 : decode cX5_nextLink 9 = .ok (.if_icmp .ne 37, 3) := by decide +kernel
theorem dX5_nextLink_12 : decode cX5_nextLink 12 = .ok (.aload_n 0, 1) := by decide +kernel
theorem dX5_nextLink_13 : decode cX5_nextLink 13 = .ok (.iload_n 3, 1) := by decide +kernel
theorem dX5_nextLink_14 : decode cX5_nextLink 14 = .ok (.invokevirtual 83, 3) := by decide +kernel
theorem dX5_nextLink_17 : decode cX5_nextLink 17 = .ok (.aload_n 0, 1) := by decide +kernel
theorem dX5_nextLink_18 : decode cX5_nextLink 18 = .ok (.getfield 42, 3) := by decide +kernel
theorem dX5_nextLink_21 : decode cX5_nextLink 21 = .ok (.iconst 5, 1) := by decide +kernel
theorem dX5_nextLink_22 : decode cX5_nextLink 22 = .ok (.aload_n 0, 1) := by decide +kernel
theorem dX5_nextLink_23 : decode cX5_nextLink 23 = .ok (.getfield 13, 3) := by decide +kernel
theorem dX5_nextLink_26 : decode cX5_nextLink 26 = .ok (.iload_n 3, 1) := by decide +kernel
theorem dX5_nextLink_27 : decode cX5_nextLink 27 = .ok (.iaload, 1) := by decide +kernel
theorem dX5_nextLink_28 : decode cX5_nextLink 28 = .ok (.imul, 1) := by decide +kernel
theorem dX5_nextLink_29 : decode cX5_nextLink 29 = .ok (.iload_n 2, 1) := by decide +kernel
theorem dX5_nextLink_30 : decode cX5_nextLink 30 = .ok (.iadd, 1) := by decide +kernel
theorem dX5_nextLink_31 : decode cX5_nextLink 31 = .ok (.iaload, 1) := by decide +kernel
theorem dX5_nextLink_32 : decode cX5_nextLink 32 = .ok (.iadd, 1) := by decide +kernel
theorem dX5_nextLink_33 : decode cX5_nextLink 33 = .ok (.aload_n 0, 1) := by decide +kernel
theorem dX5_nextLink_34 : decode cX5_nextLink 34 = .ok (.getfield 42, 3) := by decide +kernel
theorem dX5_nextLink_37 : decode cX5_nextLink 37 = .ok (.iconst 5, 1) := by decide +kernel
theorem dX5_nextLink_38 : decode cX5_nextLink 38 = .ok (.iload_n 1, 1) := by decide +kernel
theorem dX5_nextLink_39 : decode cX5_nextLink 39 = .ok (.imul, 1) := by decide +kernel
theorem dX5_nextLink_40 : decode cX5_nextLink 40 = .ok (.iload_n 2, 1) := by decide +kernel
theorem dX5_nextLink_41 : decode cX5_nextLink 41 = .ok (.iadd, 1) := by decide +kernel
theorem dX5_nextLink_42 : decode cX5_nextLink 42 = .ok (.iaload, 1) := by decide +kernel
theorem dX5_nextLink_43 : decode cX5_nextLink 43 = .ok (.if_icmp .eq 9, 3) := by decide +kernel
theorem dX5_nextLink_46 : decode cX5_nextLink 46 = .ok (.iinc 3 1, 3) := by decide +kernel
theorem dX5_nextLink_49 : decode cX5_nextLink 49 = .ok (.goto (-47), 3) := by decide +kernel
theorem dX5_nextLink_52 : decode cX5_nextLink 52 = .ok (.iload_n 3, 1) := by decide +kernel
theorem dX5_nextLink_53 : decode cX5_nextLink 53 = .ok (.ireturn, 1) := by decide +kernel
set_option maxRecDepth 20000 in
theorem ggX5_routeBits_X5_nextLink : GoodIn wsX5_routeBits wsX5_nextLink := goodIn_r _ [6, 7, 8, 1, 9, 10, 11, 5, 12, 13, 14, 15, 16, 17, 18, 19, 20, 21, 22, 23, 24, 25, 26, 27, 28, 29, 30, 31, 32, 33] (by decide +kernel) (by decide +kernel)
set_option maxRecDepth 20000 in
theorem gX5_routeBits_X5_nextLink : GoodIn wsX5_routeBits (wsV RX5 93 RX5 yX5_nextLink wsX5_nextLink) := goodIn_app (goodIn_of _ (by decide +kernel)) ggX5_routeBits_X5_nextLink
theorem dX5_routeBits_0 : decode cX5_routeBits 0 = .ok (.iconst 0, 1) := by decide +kernel
theorem dX5_routeBits_1 : decode cX5_routeBits 1 = .ok (.istore_n 2, 1) := by decide +kernel
theorem dX5_routeBits_2 : decode cX5_routeBits 2 = .ok (.iload_n 1, 1) := by decide +kernel
theorem dX5_routeBits_3 : decode cX5_routeBits 3 = .ok (.iconst 5, 1) := by decide +kernel
theorem dX5_routeBits_4 : decode cX5_routeBits 4 = .ok (.idiv, 1) := by decide +kernel
theorem dX5_routeBits_5 : decode cX5_routeBits 5 = .ok (.istore_n 3, 1) := by decide +kernel
theorem dX5_routeBits_6 : decode cX5_routeBits 6 = .ok (.iload_n 3, 1) := by decide +kernel
theorem dX5_routeBits_7 : decode cX5_routeBits 7 = .ok (.iload_n 1, 1) := by decide +kernel
theorem dX5_routeBits_8 : decode cX5_routeBits 8 = .ok (.iconst 5, 1) := by decide +kernel
theorem dX5_routeBits_9 : decode cX5_routeBits 9 = .ok (.irem, 1) := by decide +kernel
theorem dX5_routeBits_10 : decode cX5_routeBits 10 = .ok (.if_icmp .eq 31, 3) := by decide +kernel
theorem dX5_routeBits_13 : decode cX5_routeBits 13 = .ok (.aload_n 0, 1) := by decide +kernel
theorem dX5_routeBits_14 : decode cX5_routeBits 14 = .ok (.iload_n 3, 1) := by decide +kernel
theorem dX5_routeBits_15 : decode cX5_routeBits 15 = .ok (.iload_n 1, 1) := by decide +kernel
theorem dX5_routeBits_16 : decode cX5_routeBits 16 = .ok (.iconst 5, 1) := by decide +kernel
theorem dX5_routeBits_17 : decode cX5_routeBits 17 = .ok (.irem, 1) := by decide +kernel
theorem dX5_routeBits_18 : decode cX5_routeBits 18 = .ok (.invokevirtual 93, 3) := by decide +kernel
theorem dX5_routeBits_21 : decode cX5_routeBits 21 = .ok (.istore 4, 2) := by decide +kernel
theorem dX5_routeBits_23 : decode cX5_routeBits 23 = .ok (.iload_n 2, 1) := by decide +kernel
theorem dX5_routeBits_24 : decode cX5_routeBits 24 = .ok (.iconst 1, 1) := by decide +kernel
theorem dX5_routeBits_25 : decode cX5_routeBits 25 = .ok (.iload 4, 2) := by decide +kernel
theorem dX5_routeBits_27 : decode cX5_routeBits 27 = .ok (.ishl, 1) := by decide +kernel
theorem dX5_routeBits_28 : decode cX5_routeBits 28 = .ok (.ior, 1) := by decide +kernel
theorem dX5_routeBits_29 : decode cX5_routeBits 29 = .ok (.istore_n 2, 1) := by decide +kernel
theorem dX5_routeBits_30 : decode cX5_routeBits 30 = .ok (.aload_n 0, 1) := by decide +kernel
theorem dX5_routeBits_31 : decode cX5_routeBits 31 = .ok (.getfield 13, 3) := by decide +kernel
theorem dX5_routeBits_34 : decode cX5_routeBits 34 = .ok (.iload 4, 2) := by decide +kernel
theorem dX5_routeBits_36 : decode cX5_routeBits 36 = .ok (.iaload, 1) := by decide +kernel
theorem dX5_routeBits_37 : decode cX5_routeBits 37 = .ok (.istore_n 3, 1) := by decide +kernel
theorem dX5_routeBits_38 : decode cX5_routeBits 38 = .ok (.goto (-32), 3) := by decide +kernel
theorem dX5_routeBits_41 : decode cX5_routeBits 41 = .ok (.iload_n 2, 1) := by decide +kernel
theorem dX5_routeBits_42 : decode cX5_routeBits 42 = .ok (.ireturn, 1) := by decide +kernel
theorem dX5_hasRoute_0 : decode cX5_hasRoute 0 = .ok (.aload_n 0, 1) := by decide +kernel
theorem dX5_hasRoute_1 : decode cX5_hasRoute 1 = .ok (.getfield 45, 3) := by decide +kernel
theorem dX5_hasRoute_4 : decode cX5_hasRoute 4 = .ok (.iload_n 1, 1) := by decide +kernel
theorem dX5_hasRoute_5 : decode cX5_hasRoute 5 = .ok (.iaload, 1) := by decide +kernel
theorem dX5_hasRoute_6 : decode cX5_hasRoute 6 = .ok (.ifCond .eq 7, 3) := by decide +kernel
theorem dX5_hasRoute_9 : decode cX5_hasRoute 9 = .ok (.iconst 1, 1) := by decide +kernel
theorem dX5_hasRoute_10 : decode cX5_hasRoute 10 = .ok (.goto 4, 3) := by decide +kernel
theorem dX5_hasRoute_13 : decode cX5_hasRoute 13 = .ok (.iconst 0, 1) := by decide +kernel
theorem dX5_hasRoute_14 : decode cX5_hasRoute 14 = .ok (.ireturn, 1) := by decide +kernel
theorem dX5_uses_0 : decode cX5_uses 0 = .ok (.aload_n 0, 1) := by decide +kernel
theorem dX5_uses_1 : decode cX5_uses 1 = .ok (.getfield 45, 3) := by decide +kernel
theorem dX5_uses_4 : decode cX5_uses 4 = .ok (.iload_n 1, 1) := by decide +kernel
theorem dX5_uses_5 : decode cX5_uses 5 = .ok (.iaload, 1) := by decide +kernel
theorem dX5_uses_6 : decode cX5_uses 6 = .ok (.iload_n 2, 1) := by decide +kernel
theorem dX5_uses_7 : decode cX5_uses 7 = .ok (.ishr, 1) := by decide +kernel
theorem dX5_uses_8 : decode cX5_uses 8 = .ok (.iconst 1, 1) := by decide +kernel
theorem dX5_uses_9 : decode cX5_uses 9 = .ok (.iand, 1) := by decide +kernel
theorem dX5_uses_10 : decode cX5_uses 10 = .ok (.iconst 1, 1) := by decide +kernel
theorem dX5_uses_11 : decode cX5_uses 11 = .ok (.if_icmp .ne 7, 3) := by decide +kernel
theorem dX5_uses_14 : decode cX5_uses 14 = .ok (.iconst 1, 1) := by decide +kernel
theorem dX5_uses_15 : decode cX5_uses 15 = .ok (.goto 4, 3) := by decide +kernel
theorem dX5_uses_18 : decode cX5_uses 18 = .ok (.iconst 0, 1) := by decide +kernel
theorem dX5_uses_19 : decode cX5_uses 19 = .ok (.ireturn, 1) := by decide +kernel
set_option maxRecDepth 20000 in
theorem ggX5_refusedRoute_X5_refused : GoodIn wsX5_refusedRoute wsX5_refused := goodIn_r _ [5, 6, 7, 8, 4, 9, 10, 11, 12, 13, 45, 46, 47, 48, 49, 50, 51, 52, 53, 54, 55, 56, 57, 58, 59, 60, 61, 62, 63, 64] (by decide +kernel) (by decide +kernel)
set_option maxRecDepth 20000 in
theorem gX5_refusedRoute_X5_refused : GoodIn wsX5_refusedRoute (wsV RX5 75 RX5 yX5_refused wsX5_refused) := goodIn_app (goodIn_of _ (by decide +kernel)) ggX5_refusedRoute_X5_refused
set_option maxRecDepth 20000 in
theorem ggX5_refusedRoute_X5_findRoutes : GoodIn wsX5_refusedRoute wsX5_findRoutes := goodIn_r _ [17, 18, 19, 20, 10, 21, 22, 23, 24, 25, 26, 4, 27, 28, 29, 30, 31, 32, 33, 34, 35, 36, 37, 38, 39, 40, 45, 46, 47, 48, 49, 50, 51, 52, 53, 54, 55, 56, 57, 58, 59, 60, 61, 62, 63, 64] (by decide +kernel) (by decide +kernel)
set_option maxRecDepth 20000 in
theorem gX5_refusedRoute_X5_findRoutes : GoodIn wsX5_refusedRoute (wsV RX5 96 RX5 yX5_findRoutes wsX5_findRoutes) := goodIn_app (goodIn_of _ (by decide +kernel)) ggX5_refusedRoute_X5_findRoutes
set_option maxRecDepth 20000 in
theorem ggX5_refusedRoute_X5_hasRoute : GoodIn wsX5_refusedRoute wsX5_hasRoute := goodIn_r _ [44, 23, 45, 46, 47, 48, 49, 50, 51, 52, 53, 54, 55, 56, 57, 58, 59, 60, 61, 62, 63, 64] (by decide +kernel) (by decide +kernel)
set_option maxRecDepth 20000 in
theorem gX5_refusedRoute_X5_hasRoute : GoodIn wsX5_refusedRoute (wsV RX5 99 RX5 yX5_hasRoute wsX5_hasRoute) := goodIn_app (goodIn_of _ (by decide +kernel)) ggX5_refusedRoute_X5_hasRoute
theorem dX5_refusedRoute_0 : decode cX5_refusedRoute 0 = .ok (.aload_n 0, 1) := by decide +kernel
theorem dX5_refusedRoute_1 : decode cX5_refusedRoute 1 = .ok (.iload_n 1, 1) := by decide +kernel
theorem dX5_refusedRoute_2 : decode cX5_refusedRoute 2 = .ok (.iload_n 2, 1) := by decide +kernel
theorem dX5_refusedRoute_3 : decode cX5_refusedRoute 3 = .ok (.invokevirtual 75, 3) := by decide +kernel
theorem dX5_refusedRoute_6 : decode cX5_refusedRoute 6 = .ok (.istore_n 3, 1) := by decide +kernel
theorem dX5_refusedRoute_7 : decode cX5_refusedRoute 7 = .ok (.iload_n 3, 1) := by decide +kernel
theorem dX5_refusedRoute_8 : decode cX5_refusedRoute 8 = .ok (.ifCond .eq 5, 3) := by decide +kernel
theorem dX5_refusedRoute_11 : decode cX5_refusedRoute 11 = .ok (.iload_n 3, 1) := by decide +kernel
theorem dX5_refusedRoute_12 : decode cX5_refusedRoute 12 = .ok (.ireturn, 1) := by decide +kernel
theorem dX5_refusedRoute_13 : decode cX5_refusedRoute 13 = .ok (.aload_n 0, 1) := by decide +kernel
theorem dX5_refusedRoute_14 : decode cX5_refusedRoute 14 = .ok (.invokevirtual 96, 3) := by decide +kernel
theorem dX5_refusedRoute_17 : decode cX5_refusedRoute 17 = .ok (.aload_n 0, 1) := by decide +kernel
theorem dX5_refusedRoute_18 : decode cX5_refusedRoute 18 = .ok (.iconst 5, 1) := by decide +kernel
theorem dX5_refusedRoute_19 : decode cX5_refusedRoute 19 = .ok (.iload_n 1, 1) := by decide +kernel
theorem dX5_refusedRoute_20 : decode cX5_refusedRoute 20 = .ok (.imul, 1) := by decide +kernel
theorem dX5_refusedRoute_21 : decode cX5_refusedRoute 21 = .ok (.iload_n 2, 1) := by decide +kernel
theorem dX5_refusedRoute_22 : decode cX5_refusedRoute 22 = .ok (.iadd, 1) := by decide +kernel
theorem dX5_refusedRoute_23 : decode cX5_refusedRoute 23 = .ok (.invokevirtual 99, 3) := by decide +kernel
theorem dX5_refusedRoute_26 : decode cX5_refusedRoute 26 = .ok (.ifCond .eq 7, 3) := by decide +kernel
theorem dX5_refusedRoute_29 : decode cX5_refusedRoute 29 = .ok (.iconst 0, 1) := by decide +kernel
theorem dX5_refusedRoute_30 : decode cX5_refusedRoute 30 = .ok (.goto 5, 3) := by decide +kernel
theorem dX5_refusedRoute_33 : decode cX5_refusedRoute 33 = .ok (.bipush (-6), 2) := by decide +kernel
theorem dX5_refusedRoute_35 : decode cX5_refusedRoute 35 = .ok (.ireturn, 1) := by decide +kernel
set_option maxRecDepth 20000 in
theorem ggX5_routeLength_X5_refusedRoute : GoodIn wsX5_routeLength wsX5_refusedRoute := goodIn_r _ [6, 7, 8, 9, 5, 10, 11, 12, 13, 14, 15, 16, 17, 18, 19, 20, 21, 22, 1, 23, 24, 25, 26, 27, 28, 29, 30, 31, 32, 33, 34, 35, 36, 37, 38, 39, 40, 41, 42, 43, 44, 45, 46, 47, 48, 49, 50, 51, 52, 53, 54, 55, 56, 57, 58, 59, 60, 61, 62, 63, 64, 65, 66, 67, 68] (by decide +kernel) (by decide +kernel)
set_option maxRecDepth 20000 in
theorem gX5_routeLength_X5_refusedRoute : GoodIn wsX5_routeLength (wsV RX5 102 RX5 yX5_refusedRoute wsX5_refusedRoute) := goodIn_app (goodIn_of _ (by decide +kernel)) ggX5_routeLength_X5_refusedRoute
theorem dX5_routeLength_0 : decode cX5_routeLength 0 = .ok (.aload_n 0, 1) := by decide +kernel
theorem dX5_routeLength_1 : decode cX5_routeLength 1 = .ok (.iload_n 1, 1) := by decide +kernel
theorem dX5_routeLength_2 : decode cX5_routeLength 2 = .ok (.iload_n 2, 1) := by decide +kernel
theorem dX5_routeLength_3 : decode cX5_routeLength 3 = .ok (.invokevirtual 102, 3) := by decide +kernel
theorem dX5_routeLength_6 : decode cX5_routeLength 6 = .ok (.istore_n 3, 1) := by decide +kernel
theorem dX5_routeLength_7 : decode cX5_routeLength 7 = .ok (.iload_n 3, 1) := by decide +kernel
theorem dX5_routeLength_8 : decode cX5_routeLength 8 = .ok (.ifCond .eq 7, 3) := by decide +kernel
theorem dX5_routeLength_11 : decode cX5_routeLength 11 = .ok (.iload_n 3, 1) := by decide +kernel
theorem dX5_routeLength_12 : decode cX5_routeLength 12 = .ok (.goto 16, 3) := by decide +kernel
theorem dX5_routeLength_15 : decode cX5_routeLength 15 = .ok (.aload_n 0, 1) := by decide +kernel
theorem dX5_routeLength_16 : decode cX5_routeLength 16 = .ok (.getfield 42, 3) := by decide +kernel
theorem dX5_routeLength_19 : decode cX5_routeLength 19 = .ok (.iconst 5, 1) := by decide +kernel
theorem dX5_routeLength_20 : decode cX5_routeLength 20 = .ok (.iload_n 1, 1) := by decide +kernel
theorem dX5_routeLength_21 : decode cX5_routeLength 21 = .ok (.imul, 1) := by decide +kernel
theorem dX5_routeLength_22 : decode cX5_routeLength 22 = .ok (.iload_n 2, 1) := by decide +kernel
theorem dX5_routeLength_23 : decode cX5_routeLength 23 = .ok (.iadd, 1) := by decide +kernel
theorem dX5_routeLength_24 : decode cX5_routeLength 24 = .ok (.iaload, 1) := by decide +kernel
theorem dX5_routeLength_25 : decode cX5_routeLength 25 = .ok (.bipush 10, 2) := by decide +kernel
theorem dX5_routeLength_27 : decode cX5_routeLength 27 = .ok (.irem, 1) := by decide +kernel
theorem dX5_routeLength_28 : decode cX5_routeLength 28 = .ok (.ireturn, 1) := by decide +kernel
set_option maxRecDepth 20000 in
theorem ggX5_routeLink_X5_refusedRoute : GoodIn wsX5_routeLink wsX5_refusedRoute := goodIn_r _ [7, 8, 9, 10, 6, 11, 12, 13, 14, 15, 16, 17, 18, 19, 20, 21, 22, 23, 1, 24, 25, 2, 26, 27, 28, 29, 30, 31, 32, 33, 34, 35, 36, 37, 38, 39, 40, 41, 42, 43, 44, 45, 46, 47, 48, 49, 50, 51, 52, 53, 54, 55, 56, 57, 58, 59, 60, 61, 62, 63, 64, 65, 66, 67, 68] (by decide +kernel) (by decide +kernel)
set_option maxRecDepth 20000 in
theorem gX5_routeLink_X5_refusedRoute : GoodIn wsX5_routeLink (wsV RX5 102 RX5 yX5_refusedRoute wsX5_refusedRoute) := goodIn_app (goodIn_of _ (by decide +kernel)) ggX5_routeLink_X5_refusedRoute
set_option maxRecDepth 20000 in
theorem ggX5_routeLink_X5_within : GoodIn wsX5_routeLink wsX5_within := goodIn_r _ [19] (by decide +kernel) (by decide +kernel)
set_option maxRecDepth 20000 in
theorem gX5_routeLink_X5_within : GoodIn wsX5_routeLink (va_wsS RX5 64 yX5_within wsX5_within) := goodIn_app (goodIn_of _ (by decide +kernel)) ggX5_routeLink_X5_within
set_option maxRecDepth 20000 in
theorem ggX5_routeLink_X5_nextLink : GoodIn wsX5_routeLink wsX5_nextLink := goodIn_r _ [44, 26, 1, 2, 28, 29, 30, 6, 31, 32, 49, 50, 51, 52, 53, 54, 55, 56, 57, 58, 59, 60, 61, 62, 63, 64, 65, 66, 67, 68] (by decide +kernel) (by decide +kernel)
set_option maxRecDepth 20000 in
theorem gX5_routeLink_X5_nextLink : GoodIn wsX5_routeLink (wsV RX5 93 RX5 yX5_nextLink wsX5_nextLink) := goodIn_app (goodIn_of _ (by decide +kernel)) ggX5_routeLink_X5_nextLink
theorem dX5_routeLink_0 : decode cX5_routeLink 0 = .ok (.aload_n 0, 1) := by decide +kernel
theorem dX5_routeLink_1 : decode cX5_routeLink 1 = .ok (.iload_n 1, 1) := by decide +kernel
theorem dX5_routeLink_2 : decode cX5_routeLink 2 = .ok (.iload_n 2, 1) := by decide +kernel
theorem dX5_routeLink_3 : decode cX5_routeLink 3 = .ok (.invokevirtual 102, 3) := by decide +kernel
theorem dX5_routeLink_6 : decode cX5_routeLink 6 = .ok (.istore 4, 2) := by decide +kernel
theorem dX5_routeLink_8 : decode cX5_routeLink 8 = .ok (.iload 4, 2) := by decide +kernel
theorem dX5_routeLink_10 : decode cX5_routeLink 10 = .ok (.ifCond .eq 6, 3) := by decide +kernel
theorem dX5_routeLink_13 : decode cX5_routeLink 13 = .ok (.iload 4, 2) := by decide +kernel
theorem dX5_routeLink_15 : decode cX5_routeLink 15 = .ok (.ireturn, 1) := by decide +kernel
theorem dX5_routeLink_16 : decode cX5_routeLink 16 = .ok (.iload_n 3, 1) := by decide +kernel
theorem dX5_routeLink_17 : decode cX5_routeLink 17 = .ok (.iconst 0, 1) := by decide +kernel
theorem dX5_routeLink_18 : decode cX5_routeLink 18 = .ok (.aload_n 0, 1) := by decide +kernel
theorem dX5_routeLink_19 : decode cX5_routeLink 19 = .ok (.getfield 42, 3) := by decide +kernel
theorem dX5_routeLink_22 : decode cX5_routeLink 22 = .ok (.iconst 5, 1) := by decide +kernel
theorem dX5_routeLink_23 : decode cX5_routeLink 23 = .ok (.iload_n 1, 1) := by decide +kernel
theorem dX5_routeLink_24 : decode cX5_routeLink 24 = .ok (.imul, 1) := by decide +kernel
theorem dX5_routeLink_25 : decode cX5_routeLink 25 = .ok (.iload_n 2, 1) := by decide +kernel
theorem dX5_routeLink_26 : decode cX5_routeLink 26 = .ok (.iadd, 1) := by decide +kernel
theorem dX5_routeLink_27 : decode cX5_routeLink 27 = .ok (.iaload, 1) := by decide +kernel
theorem dX5_routeLink_28 : decode cX5_routeLink 28 = .ok (.bipush 10, 2) := by decide +kernel
theorem dX5_routeLink_30 : decode cX5_routeLink 30 = .ok (.irem, 1) := by decide +kernel
theorem dX5_routeLink_31 : decode cX5_routeLink 31 = .ok (.iconst 1, 1) := by decide +kernel
theorem dX5_routeLink_32 : decode cX5_routeLink 32 = .ok (.isub, 1) := by decide +kernel
theorem dX5_routeLink_33 : decode cX5_routeLink 33 = .ok (.invokestatic 64, 3) := by decide +kernel
theorem dX5_routeLink_36 : decode cX5_routeLink 36 = .ok (.ifCond .ne 6, 3) := by decide +kernel
theorem dX5_routeLink_39 : decode cX5_routeLink 39 = .ok (.bipush (-4), 2) := by decide +kernel
theorem dX5_routeLink_41 : decode cX5_routeLink 41 = .ok (.ireturn, 1) := by decide +kernel
theorem dX5_routeLink_42 : decode cX5_routeLink 42 = .ok (.aload_n 0, 1) := by decide +kernel
theorem dX5_routeLink_43 : decode cX5_routeLink 43 = .ok (.iload_n 1, 1) := by decide +kernel
theorem dX5_routeLink_44 : decode cX5_routeLink 44 = .ok (.iload_n 2, 1) := by decide +kernel
theorem dX5_routeLink_45 : decode cX5_routeLink 45 = .ok (.invokevirtual 93, 3) := by decide +kernel
theorem dX5_routeLink_48 : decode cX5_routeLink 48 = .ok (.istore 5, 2) := by decide +kernel
theorem dX5_routeLink_50 : decode cX5_routeLink 50 = .ok (.iconst 0, 1) := by decide +kernel
theorem dX5_routeLink_51 : decode cX5_routeLink 51 = .ok (.istore 6, 2) := by decide +kernel
theorem dX5_routeLink_53 : decode cX5_routeLink 53 = .ok (.iload 6, 2) := by decide +kernel
theorem dX5_routeLink_55 : decode cX5_routeLink 55 = .ok (.iload_n 3, 1) := by decide +kernel
theorem dX5_routeLink_56 : decode cX5_routeLink 56 = .ok (.if_icmp .ge 23, 3) := by decide +kernel
theorem dX5_routeLink_59 : decode cX5_routeLink 59 = .ok (.aload_n 0, 1) := by decide +kernel
theorem dX5_routeLink_60 : decode cX5_routeLink 60 = .ok (.aload_n 0, 1) := by decide +kernel
theorem dX5_routeLink_61 : decode cX5_routeLink 61 = .ok (.getfield 13, 3) := by decide +kernel
theorem dX5_routeLink_64 : decode cX5_routeLink 64 = .ok (.iload 5, 2) := by decide +kernel
theorem dX5_routeLink_66 : decode cX5_routeLink 66 = .ok (.iaload, 1) := by decide +kernel
theorem dX5_routeLink_67 : decode cX5_routeLink 67 = .ok (.iload_n 2, 1) := by decide +kernel
theorem dX5_routeLink_68 : decode cX5_routeLink 68 = .ok (.invokevirtual 93, 3) := by decide +kernel
theorem dX5_routeLink_71 : decode cX5_routeLink 71 = .ok (.istore 5, 2) := by decide +kernel
theorem dX5_routeLink_73 : decode cX5_routeLink 73 = .ok (.iinc 6 1, 3) := by decide +kernel
theorem dX5_routeLink_76 : decode cX5_routeLink 76 = .ok (.goto (-23), 3) := by decide +kernel
theorem dX5_routeLink_79 : decode cX5_routeLink 79 = .ok (.iload 5, 2) := by decide +kernel
theorem dX5_routeLink_81 : decode cX5_routeLink 81 = .ok (.ireturn, 1) := by decide +kernel
set_option maxRecDepth 20000 in
theorem ggX5_pairsOnLink_X5_isLink : GoodIn wsX5_pairsOnLink wsX5_isLink := goodIn_r _ [5, 6, 7, 8, 4, 9, 41, 42, 43, 44, 45, 46, 47, 48, 49, 50, 51, 52, 53, 54, 55, 56, 57, 58, 59, 60] (by decide +kernel) (by decide +kernel)
set_option maxRecDepth 20000 in
theorem gX5_pairsOnLink_X5_isLink : GoodIn wsX5_pairsOnLink (wsV RX5 79 RX5 yX5_isLink wsX5_isLink) := goodIn_app (goodIn_of _ (by decide +kernel)) ggX5_pairsOnLink_X5_isLink
set_option maxRecDepth 20000 in
theorem ggX5_pairsOnLink_X5_findRoutes : GoodIn wsX5_pairsOnLink wsX5_findRoutes := goodIn_r _ [13, 14, 15, 6, 16, 17, 18, 19, 20, 21, 22, 4, 23, 24, 25, 26, 27, 28, 29, 30, 31, 32, 33, 34, 35, 36, 41, 42, 43, 44, 45, 46, 47, 48, 49, 50, 51, 52, 53, 54, 55, 56, 57, 58, 59, 60] (by decide +kernel) (by decide +kernel)
set_option maxRecDepth 20000 in
theorem gX5_pairsOnLink_X5_findRoutes : GoodIn wsX5_pairsOnLink (wsV RX5 96 RX5 yX5_findRoutes wsX5_findRoutes) := goodIn_app (goodIn_of _ (by decide +kernel)) ggX5_pairsOnLink_X5_findRoutes
set_option maxRecDepth 20000 in
theorem ggX5_pairsOnLink_X5_uses : GoodIn wsX5_pairsOnLink wsX5_uses := goodIn_r _ [40, 19, 41, 42, 43, 44, 45, 46, 47, 48, 49, 50, 51, 52, 53, 54, 55, 56, 57, 58, 59, 60] (by decide +kernel) (by decide +kernel)
set_option maxRecDepth 20000 in
theorem gX5_pairsOnLink_X5_uses : GoodIn wsX5_pairsOnLink (wsV RX5 105 RX5 yX5_uses wsX5_uses) := goodIn_app (goodIn_of _ (by decide +kernel)) ggX5_pairsOnLink_X5_uses
theorem dX5_pairsOnLink_0 : decode cX5_pairsOnLink 0 = .ok (.aload_n 0, 1) := by decide +kernel
theorem dX5_pairsOnLink_1 : decode cX5_pairsOnLink 1 = .ok (.iload_n 1, 1) := by decide +kernel
theorem dX5_pairsOnLink_2 : decode cX5_pairsOnLink 2 = .ok (.invokevirtual 79, 3) := by decide +kernel
theorem dX5_pairsOnLink_5 : decode cX5_pairsOnLink 5 = .ok (.ifCond .ne 6, 3) := by decide +kernel
theorem dX5_pairsOnLink_8 : decode cX5_pairsOnLink 8 = .ok (.bipush (-3), 2) := by decide +kernel
theorem dX5_pairsOnLink_10 : decode cX5_pairsOnLink 10 = .ok (.ireturn, 1) := by decide +kernel
theorem dX5_pairsOnLink_11 : decode cX5_pairsOnLink 11 = .ok (.aload_n 0, 1) := by decide +kernel
theorem dX5_pairsOnLink_12 : decode cX5_pairsOnLink 12 = .ok (.invokevirtual 96, 3) := by decide +kernel
theorem dX5_pairsOnLink_15 : decode cX5_pairsOnLink 15 = .ok (.iconst 0, 1) := by decide +kernel
theorem dX5_pairsOnLink_16 : decode cX5_pairsOnLink 16 = .ok (.istore_n 2, 1) := by decide +kernel
theorem dX5_pairsOnLink_17 : decode cX5_pairsOnLink 17 = .ok (.iconst 0, 1) := by decide +kernel
theorem dX5_pairsOnLink_18 : decode cX5_pairsOnLink 18 = .ok (.istore_n 3, 1) := by decide +kernel
theorem dX5_pairsOnLink_19 : decode cX5_pairsOnLink 19 = .ok (.iload_n 3, 1) := by decide +kernel
theorem dX5_pairsOnLink_20 : decode cX5_pairsOnLink 20 = .ok (.bipush 25, 2) := by decide +kernel
theorem dX5_pairsOnLink_22 : decode cX5_pairsOnLink 22 = .ok (.if_icmp .ge 26, 3) := by decide +kernel
theorem dX5_pairsOnLink_25 : decode cX5_pairsOnLink 25 = .ok (.iload_n 2, 1) := by decide +kernel
theorem dX5_pairsOnLink_26 : decode cX5_pairsOnLink 26 = .ok (.aload_n 0, 1) := by decide +kernel
theorem dX5_pairsOnLink_27 : decode cX5_pairsOnLink 27 = .ok (.iload_n 3, 1) := by decide +kernel
theorem dX5_pairsOnLink_28 : decode cX5_pairsOnLink 28 = .ok (.iload_n 1, 1) := by decide +kernel
theorem dX5_pairsOnLink_29 : decode cX5_pairsOnLink 29 = .ok (.invokevirtual 105, 3) := by decide +kernel
theorem dX5_pairsOnLink_32 : decode cX5_pairsOnLink 32 = .ok (.ifCond .eq 7, 3) := by decide +kernel
theorem dX5_pairsOnLink_35 : decode cX5_pairsOnLink 35 = .ok (.iconst 1, 1) := by decide +kernel
theorem dX5_pairsOnLink_36 : decode cX5_pairsOnLink 36 = .ok (.goto 4, 3) := by decide +kernel
theorem dX5_pairsOnLink_39 : decode cX5_pairsOnLink 39 = .ok (.iconst 0, 1) := by decide +kernel
theorem dX5_pairsOnLink_40 : decode cX5_pairsOnLink 40 = .ok (.iadd, 1) := by decide +kernel
theorem dX5_pairsOnLink_41 : decode cX5_pairsOnLink 41 = .ok (.istore_n 2, 1) := by decide +kernel
theorem dX5_pairsOnLink_42 : decode cX5_pairsOnLink 42 = .ok (.iinc 3 1, 3) := by decide +kernel
theorem dX5_pairsOnLink_45 : decode cX5_pairsOnLink 45 = .ok (.goto (-26), 3) := by decide +kernel
theorem dX5_pairsOnLink_48 : decode cX5_pairsOnLink 48 = .ok (.iload_n 2, 1) := by decide +kernel
theorem dX5_pairsOnLink_49 : decode cX5_pairsOnLink 49 = .ok (.ireturn, 1) := by decide +kernel
set_option maxRecDepth 20000 in
theorem ggX5_setDemand_X5_refused : GoodIn wsX5_setDemand wsX5_refused := goodIn_r _ [6, 7, 8, 9, 5, 10, 11, 12, 13, 14, 15, 16, 17, 18, 19, 20, 21, 22, 23, 24, 25, 26, 27, 28, 29, 30, 31, 32, 33, 34] (by decide +kernel) (by decide +kernel)
set_option maxRecDepth 20000 in
theorem gX5_setDemand_X5_refused : GoodIn wsX5_setDemand (wsV RX5 75 RX5 yX5_refused wsX5_refused) := goodIn_app (goodIn_of _ (by decide +kernel)) ggX5_setDemand_X5_refused
set_option maxRecDepth 20000 in
theorem ggX5_setDemand_X5_within : GoodIn wsX5_setDemand wsX5_within := goodIn_r _ [14] (by decide +kernel) (by decide +kernel)
set_option maxRecDepth 20000 in
theorem gX5_setDemand_X5_within : GoodIn wsX5_setDemand (va_wsS RX5 64 yX5_within wsX5_within) := goodIn_app (goodIn_of _ (by decide +kernel)) ggX5_setDemand_X5_within
theorem dX5_setDemand_0 : decode cX5_setDemand 0 = .ok (.aload_n 0, 1) := by decide +kernel
theorem dX5_setDemand_1 : decode cX5_setDemand 1 = .ok (.iload_n 1, 1) := by decide +kernel
theorem dX5_setDemand_2 : decode cX5_setDemand 2 = .ok (.iload_n 2, 1) := by decide +kernel
theorem dX5_setDemand_3 : decode cX5_setDemand 3 = .ok (.invokevirtual 75, 3) := by decide +kernel
theorem dX5_setDemand_6 : decode cX5_setDemand 6 = .ok (.istore 4, 2) := by decide +kernel
theorem dX5_setDemand_8 : decode cX5_setDemand 8 = .ok (.iload 4, 2) := by decide +kernel
theorem dX5_setDemand_10 : decode cX5_setDemand 10 = .ok (.ifCond .eq 6, 3) := by decide +kernel
theorem dX5_setDemand_13 : decode cX5_setDemand 13 = .ok (.iload 4, 2) := by decide +kernel
theorem dX5_setDemand_15 : decode cX5_setDemand 15 = .ok (.ireturn, 1) := by decide +kernel
theorem dX5_setDemand_16 : decode cX5_setDemand 16 = .ok (.iload_n 3, 1) := by decide +kernel
theorem dX5_setDemand_17 : decode cX5_setDemand 17 = .ok (.iconst 0, 1) := by decide +kernel
theorem dX5_setDemand_18 : decode cX5_setDemand 18 = .ok (.sipush 9999, 3) := by decide +kernel
theorem dX5_setDemand_21 : decode cX5_setDemand 21 = .ok (.invokestatic 64, 3) := by decide +kernel
theorem dX5_setDemand_24 : decode cX5_setDemand 24 = .ok (.ifCond .ne 6, 3) := by decide +kernel
theorem dX5_setDemand_27 : decode cX5_setDemand 27 = .ok (.bipush (-4), 2) := by decide +kernel
theorem dX5_setDemand_29 : decode cX5_setDemand 29 = .ok (.ireturn, 1) := by decide +kernel
theorem dX5_setDemand_30 : decode cX5_setDemand 30 = .ok (.aload_n 0, 1) := by decide +kernel
theorem dX5_setDemand_31 : decode cX5_setDemand 31 = .ok (.getfield 19, 3) := by decide +kernel
theorem dX5_setDemand_34 : decode cX5_setDemand 34 = .ok (.iconst 5, 1) := by decide +kernel
theorem dX5_setDemand_35 : decode cX5_setDemand 35 = .ok (.iload_n 1, 1) := by decide +kernel
theorem dX5_setDemand_36 : decode cX5_setDemand 36 = .ok (.imul, 1) := by decide +kernel
theorem dX5_setDemand_37 : decode cX5_setDemand 37 = .ok (.iload_n 2, 1) := by decide +kernel
theorem dX5_setDemand_38 : decode cX5_setDemand 38 = .ok (.iadd, 1) := by decide +kernel
theorem dX5_setDemand_39 : decode cX5_setDemand 39 = .ok (.iaload, 1) := by decide +kernel
theorem dX5_setDemand_40 : decode cX5_setDemand 40 = .ok (.istore 5, 2) := by decide +kernel
theorem dX5_setDemand_42 : decode cX5_setDemand 42 = .ok (.aload_n 0, 1) := by decide +kernel
theorem dX5_setDemand_43 : decode cX5_setDemand 43 = .ok (.getfield 19, 3) := by decide +kernel
theorem dX5_setDemand_46 : decode cX5_setDemand 46 = .ok (.iconst 5, 1) := by decide +kernel
theorem dX5_setDemand_47 : decode cX5_setDemand 47 = .ok (.iload_n 1, 1) := by decide +kernel
theorem dX5_setDemand_48 : decode cX5_setDemand 48 = .ok (.imul, 1) := by decide +kernel
theorem dX5_setDemand_49 : decode cX5_setDemand 49 = .ok (.iload_n 2, 1) := by decide +kernel
theorem dX5_setDemand_50 : decode cX5_setDemand 50 = .ok (.iadd, 1) := by decide +kernel
theorem dX5_setDemand_51 : decode cX5_setDemand 51 = .ok (.iload_n 3, 1) := by decide +kernel
theorem dX5_setDemand_52 : decode cX5_setDemand 52 = .ok (.iastore, 1) := by decide +kernel
theorem dX5_setDemand_53 : decode cX5_setDemand 53 = .ok (.iload 5, 2) := by decide +kernel
theorem dX5_setDemand_55 : decode cX5_setDemand 55 = .ok (.ireturn, 1) := by decide +kernel
set_option maxRecDepth 20000 in
theorem ggX5_carried_X5_uses : GoodIn wsX5_carried wsX5_uses := goodIn_r _ [6, 7, 8, 9, 10, 11, 12, 13, 14, 15, 16, 17, 18, 19, 20, 21, 22, 23, 24, 25, 26, 27] (by decide +kernel) (by decide +kernel)
set_option maxRecDepth 20000 in
theorem gX5_carried_X5_uses : GoodIn wsX5_carried (wsV RX5 105 RX5 yX5_uses wsX5_uses) := goodIn_app (goodIn_of _ (by decide +kernel)) ggX5_carried_X5_uses
theorem dX5_carried_0 : decode cX5_carried 0 = .ok (.iconst 0, 1) := by decide +kernel
theorem dX5_carried_1 : decode cX5_carried 1 = .ok (.istore_n 2, 1) := by decide +kernel
theorem dX5_carried_2 : decode cX5_carried 2 = .ok (.iconst 0, 1) := by decide +kernel
theorem dX5_carried_3 : decode cX5_carried 3 = .ok (.istore_n 3, 1) := by decide +kernel
theorem dX5_carried_4 : decode cX5_carried 4 = .ok (.iload_n 3, 1) := by decide +kernel
theorem dX5_carried_5 : decode cX5_carried 5 = .ok (.bipush 25, 2) := by decide +kernel
theorem dX5_carried_7 : decode cX5_carried 7 = .ok (.if_icmp .ge 31, 3) := by decide +kernel
theorem dX5_carried_10 : decode cX5_carried 10 = .ok (.iload_n 2, 1) := by decide +kernel
theorem dX5_carried_11 : decode cX5_carried 11 = .ok (.aload_n 0, 1) := by decide +kernel
theorem dX5_carried_12 : decode cX5_carried 12 = .ok (.iload_n 3, 1) := by decide +kernel
theorem dX5_carried_13 : decode cX5_carried 13 = .ok (.iload_n 1, 1) := by decide +kernel
theorem dX5_carried_14 : decode cX5_carried 14 = .ok (.invokevirtual 105, 3) := by decide +kernel
theorem dX5_carried_17 : decode cX5_carried 17 = .ok (.ifCond .eq 12, 3) := by decide +kernel
theorem dX5_carried_20 : decode cX5_carried 20 = .ok (.aload_n 0, 1) := by decide +kernel
theorem dX5_carried_21 : decode cX5_carried 21 = .ok (.getfield 19, 3) := by decide +kernel
theorem dX5_carried_24 : decode cX5_carried 24 = .ok (.iload_n 3, 1) := by decide +kernel
theorem dX5_carried_25 : decode cX5_carried 25 = .ok (.iaload, 1) := by decide +kernel
theorem dX5_carried_26 : decode cX5_carried 26 = .ok (.goto 4, 3) := by decide +kernel
theorem dX5_carried_29 : decode cX5_carried 29 = .ok (.iconst 0, 1) := by decide +kernel
theorem dX5_carried_30 : decode cX5_carried 30 = .ok (.iadd, 1) := by decide +kernel
theorem dX5_carried_31 : decode cX5_carried 31 = .ok (.istore_n 2, 1) := by decide +kernel
theorem dX5_carried_32 : decode cX5_carried 32 = .ok (.iinc 3 1, 3) := by decide +kernel
theorem dX5_carried_35 : decode cX5_carried 35 = .ok (.goto (-31), 3) := by decide +kernel
theorem dX5_carried_38 : decode cX5_carried 38 = .ok (.iload_n 2, 1) := by decide +kernel
theorem dX5_carried_39 : decode cX5_carried 39 = .ok (.ireturn, 1) := by decide +kernel
set_option maxRecDepth 20000 in
theorem ggX5_carriedLoad_X5_isLink : GoodIn wsX5_carriedLoad wsX5_isLink := goodIn_r _ [5, 6, 7, 8, 4, 9, 46, 47, 48, 49, 50, 51, 52, 53, 54, 55, 56, 57, 58, 59, 60, 61, 62, 63, 64, 65] (by decide +kernel) (by decide +kernel)
set_option maxRecDepth 20000 in
theorem gX5_carriedLoad_X5_isLink : GoodIn wsX5_carriedLoad (wsV RX5 79 RX5 yX5_isLink wsX5_isLink) := goodIn_app (goodIn_of _ (by decide +kernel)) ggX5_carriedLoad_X5_isLink
set_option maxRecDepth 20000 in
theorem ggX5_carriedLoad_X5_findRoutes : GoodIn wsX5_carriedLoad wsX5_findRoutes := goodIn_r _ [13, 14, 15, 6, 16, 17, 18, 19, 20, 21, 22, 4, 23, 24, 25, 26, 27, 28, 29, 30, 31, 32, 33, 34, 35, 36, 46, 47, 48, 49, 50, 51, 52, 53, 54, 55, 56, 57, 58, 59, 60, 61, 62, 63, 64, 65] (by decide +kernel) (by decide +kernel)
set_option maxRecDepth 20000 in
theorem gX5_carriedLoad_X5_findRoutes : GoodIn wsX5_carriedLoad (wsV RX5 96 RX5 yX5_findRoutes wsX5_findRoutes) := goodIn_app (goodIn_of _ (by decide +kernel)) ggX5_carriedLoad_X5_findRoutes
set_option maxRecDepth 20000 in
theorem ggX5_carriedLoad_X5_carried : GoodIn wsX5_carriedLoad wsX5_carried := goodIn_r _ [40, 41, 42, 43, 44, 4, 45, 19, 46, 47, 48, 49, 50, 51, 52, 53, 54, 55, 56, 57, 58, 59, 60, 61, 62, 63, 64, 65] (by decide +kernel) (by decide +kernel)
set_option maxRecDepth 20000 in
theorem gX5_carriedLoad_X5_carried : GoodIn wsX5_carriedLoad (wsV RX5 109 RX5 yX5_carried wsX5_carried) := goodIn_app (goodIn_of _ (by decide +kernel)) ggX5_carriedLoad_X5_carried
theorem dX5_carriedLoad_0 : decode cX5_carriedLoad 0 = .ok (.aload_n 0, 1) := by decide +kernel
theorem dX5_carriedLoad_1 : decode cX5_carriedLoad 1 = .ok (.iload_n 1, 1) := by decide +kernel
theorem dX5_carriedLoad_2 : decode cX5_carriedLoad 2 = .ok (.invokevirtual 79, 3) := by decide +kernel
theorem dX5_carriedLoad_5 : decode cX5_carriedLoad 5 = .ok (.ifCond .ne 6, 3) := by decide +kernel
theorem dX5_carriedLoad_8 : decode cX5_carriedLoad 8 = .ok (.bipush (-3), 2) := by decide +kernel
theorem dX5_carriedLoad_10 : decode cX5_carriedLoad 10 = .ok (.ireturn, 1) := by decide +kernel
theorem dX5_carriedLoad_11 : decode cX5_carriedLoad 11 = .ok (.aload_n 0, 1) := by decide +kernel
theorem dX5_carriedLoad_12 : decode cX5_carriedLoad 12 = .ok (.invokevirtual 96, 3) := by decide +kernel
theorem dX5_carriedLoad_15 : decode cX5_carriedLoad 15 = .ok (.aload_n 0, 1) := by decide +kernel
theorem dX5_carriedLoad_16 : decode cX5_carriedLoad 16 = .ok (.iload_n 1, 1) := by decide +kernel
theorem dX5_carriedLoad_17 : decode cX5_carriedLoad 17 = .ok (.invokevirtual 109, 3) := by decide +kernel
theorem dX5_carriedLoad_20 : decode cX5_carriedLoad 20 = .ok (.ireturn, 1) := by decide +kernel
set_option maxRecDepth 20000 in
theorem ggX5_measure_X5_findRoutes : GoodIn wsX5_measure wsX5_findRoutes := goodIn_r _ [10, 11, 12, 4, 13, 14, 15, 16, 17, 18, 19, 9, 20, 21, 22, 23, 24, 25, 26, 27, 28, 29, 30, 31, 32, 33, 46, 47, 48, 49, 50, 51, 52, 53, 54, 55, 56, 57, 58, 59, 60, 61, 62, 63, 64, 65] (by decide +kernel) (by decide +kernel)
set_option maxRecDepth 20000 in
theorem gX5_measure_X5_findRoutes : GoodIn wsX5_measure (wsV RX5 96 RX5 yX5_findRoutes wsX5_findRoutes) := goodIn_app (goodIn_of _ (by decide +kernel)) ggX5_measure_X5_findRoutes
set_option maxRecDepth 20000 in
theorem ggX5_measure_X5_hasRoute : GoodIn wsX5_measure wsX5_hasRoute := goodIn_r _ [37, 16, 46, 47, 48, 49, 50, 51, 52, 53, 54, 55, 56, 57, 58, 59, 60, 61, 62, 63, 64, 65] (by decide +kernel) (by decide +kernel)
set_option maxRecDepth 20000 in
theorem gX5_measure_X5_hasRoute : GoodIn wsX5_measure (wsV RX5 99 RX5 yX5_hasRoute wsX5_hasRoute) := goodIn_app (goodIn_of _ (by decide +kernel)) ggX5_measure_X5_hasRoute
set_option maxRecDepth 20000 in
theorem ggX5_measure_X5_carried : GoodIn wsX5_measure wsX5_carried := goodIn_r _ [41, 3, 42, 43, 44, 9, 45, 16, 46, 47, 48, 49, 50, 51, 52, 53, 54, 55, 56, 57, 58, 59, 60, 61, 62, 63, 64, 65] (by decide +kernel) (by decide +kernel)
set_option maxRecDepth 20000 in
theorem gX5_measure_X5_carried : GoodIn wsX5_measure (wsV RX5 109 RX5 yX5_carried wsX5_carried) := goodIn_app (goodIn_of _ (by decide +kernel)) ggX5_measure_X5_carried
theorem dX5_measure_0 : decode cX5_measure 0 = .ok (.aload_n 0, 1) := by decide +kernel
theorem dX5_measure_1 : decode cX5_measure 1 = .ok (.invokevirtual 96, 3) := by decide +kernel
theorem dX5_measure_4 : decode cX5_measure 4 = .ok (.iconst 0, 1) := by decide +kernel
theorem dX5_measure_5 : decode cX5_measure 5 = .ok (.istore_n 1, 1) := by decide +kernel
theorem dX5_measure_6 : decode cX5_measure 6 = .ok (.iconst 0, 1) := by decide +kernel
theorem dX5_measure_7 : decode cX5_measure 7 = .ok (.istore_n 2, 1) := by decide +kernel
theorem dX5_measure_8 : decode cX5_measure 8 = .ok (.iload_n 2, 1) := by decide +kernel
theorem dX5_measure_9 : decode cX5_measure 9 = .ok (.iconst 5, 1) := by decide +kernel
theorem dX5_measure_10 : decode cX5_measure 10 = .ok (.if_icmp .ge 23, 3) := by decide +kernel
theorem dX5_measure_13 : decode cX5_measure 13 = .ok (.aload_n 0, 1) := by decide +kernel
theorem dX5_measure_14 : decode cX5_measure 14 = .ok (.getfield 25, 3) := by decide +kernel
theorem dX5_measure_17 : decode cX5_measure 17 = .ok (.iload_n 2, 1) := by decide +kernel
theorem dX5_measure_18 : decode cX5_measure 18 = .ok (.iconst 0, 1) := by decide +kernel
theorem dX5_measure_19 : decode cX5_measure 19 = .ok (.iastore, 1) := by decide +kernel
theorem dX5_measure_20 : decode cX5_measure 20 = .ok (.aload_n 0, 1) := by decide +kernel
theorem dX5_measure_21 : decode cX5_measure 21 = .ok (.getfield 28, 3) := by decide +kernel
theorem dX5_measure_24 : decode cX5_measure 24 = .ok (.iload_n 2, 1) := by decide +kernel
theorem dX5_measure_25 : decode cX5_measure 25 = .ok (.iconst 0, 1) := by decide +kernel
theorem dX5_measure_26 : decode cX5_measure 26 = .ok (.iastore, 1) := by decide +kernel
theorem dX5_measure_27 : decode cX5_measure 27 = .ok (.iinc 2 1, 3) := by decide +kernel
theorem dX5_measure_30 : decode cX5_measure 30 = .ok (.goto (-22), 3) := by decide +kernel
theorem dX5_measure_33 : decode cX5_measure 33 = .ok (.iconst 0, 1) := by decide +kernel
theorem dX5_measure_34 : decode cX5_measure 34 = .ok (.istore_n 2, 1) := by decide +kernel
theorem dX5_measure_35 : decode cX5_measure 35 = .ok (.iload_n 2, 1) := by decide +kernel
theorem dX5_measure_36 : decode cX5_measure 36 = .ok (.bipush 25, 2) := by decide +kernel
theorem dX5_measure_38 : decode cX5_measure 38 = .ok (.if_icmp .ge 60, 3) := by decide +kernel
theorem dX5_measure_41 : decode cX5_measure 41 = .ok (.aload_n 0, 1) := by decide +kernel
theorem dX5_measure_42 : decode cX5_measure 42 = .ok (.iload_n 2, 1) := by decide +kernel
theorem dX5_measure_43 : decode cX5_measure 43 = .ok (.invokevirtual 99, 3) := by decide +kernel
theorem dX5_measure_46 : decode cX5_measure 46 = .ok (.ifCond .eq 46, 3) := by decide +kernel
theorem dX5_measure_49 : decode cX5_measure 49 = .ok (.aload_n 0, 1) := by decide +kernel
theorem dX5_measure_50 : decode cX5_measure 50 = .ok (.getfield 25, 3) := by decide +kernel
theorem dX5_measure_53 : decode cX5_measure 53 = .ok (.iload_n 2, 1) := by decide +kernel
theorem dX5_measure_54 : decode cX5_measure 54 = .ok (.iconst 5, 1) := by decide +kernel
theorem dX5_measure_55 : decode cX5_measure 55 = .ok (.idiv, 1) := by decide +kernel
theorem dX5_measure_56 : decode cX5_measure 56 = .ok (.dup2, 1) := by decide +kernel
theorem dX5_measure_57 : decode cX5_measure 57 = .ok (.iaload, 1) := by decide +kernel
theorem dX5_measure_58 : decode cX5_measure 58 = .ok (.aload_n 0, 1) := by decide +kernel
theorem dX5_measure_59 : decode cX5_measure 59 = .ok (.getfield 19, 3) := by decide +kernel
theorem dX5_measure_62 : decode cX5_measure 62 = .ok (.iload_n 2, 1) := by decide +kernel
theorem dX5_measure_63 : decode cX5_measure 63 = .ok (.iaload, 1) := by decide +kernel
theorem dX5_measure_64 : decode cX5_measure 64 = .ok (.iadd, 1) := by decide +kernel
theorem dX5_measure_65 : decode cX5_measure 65 = .ok (.iastore, 1) := by decide +kernel
theorem dX5_measure_66 : decode cX5_measure 66 = .ok (.aload_n 0, 1) := by decide +kernel
theorem dX5_measure_67 : decode cX5_measure 67 = .ok (.getfield 28, 3) := by decide +kernel
theorem dX5_measure_70 : decode cX5_measure 70 = .ok (.iload_n 2, 1) := by decide +kernel
theorem dX5_measure_71 : decode cX5_measure 71 = .ok (.iconst 5, 1) := by decide +kernel
theorem dX5_measure_72 : decode cX5_measure 72 = .ok (.irem, 1) := by decide +kernel
theorem dX5_measure_73 : decode cX5_measure 73 = .ok (.dup2, 1) := by decide +kernel
theorem dX5_measure_74 : decode cX5_measure 74 = .ok (.iaload, 1) := by decide +kernel
theorem dX5_measure_75 : decode cX5_measure 75 = .ok (.aload_n 0, 1) := by decide +kernel
theorem dX5_measure_76 : decode cX5_measure 76 = .ok (.getfield 19, 3) := by decide +kernel
theorem dX5_measure_79 : decode cX5_measure 79 = .ok (.iload_n 2, 1) := by decide +kernel
theorem dX5_measure_80 : decode cX5_measure 80 = .ok (.iaload, 1) := by decide +kernel
theorem dX5_measure_81 : decode cX5_measure 81 = .ok (.iadd, 1) := by decide +kernel
theorem dX5_measure_82 : decode cX5_measure 82 = .ok (.iastore, 1) := by decide +kernel
theorem dX5_measure_83 : decode cX5_measure 83 = .ok (.iload_n 1, 1) := by decide +kernel
theorem dX5_measure_84 : decode cX5_measure 84 = .ok (.aload_n 0, 1) := by decide +kernel
theorem dX5_measure_85 : decode cX5_measure 85 = .ok (.getfield 19, 3) := by decide +kernel
theorem dX5_measure_88 : decode cX5_measure 88 = .ok (.iload_n 2, 1) := by decide +kernel
theorem dX5_measure_89 : decode cX5_measure 89 = .ok (.iaload, 1) := by decide +kernel
theorem dX5_measure_90 : decode cX5_measure 90 = .ok (.iadd, 1) := by decide +kernel
theorem dX5_measure_91 : decode cX5_measure 91 = .ok (.istore_n 1, 1) := by decide +kernel
theorem dX5_measure_92 : decode cX5_measure 92 = .ok (.iinc 2 1, 3) := by decide +kernel
theorem dX5_measure_95 : decode cX5_measure 95 = .ok (.goto (-60), 3) := by decide +kernel
theorem dX5_measure_98 : decode cX5_measure 98 = .ok (.iconst 0, 1) := by decide +kernel
theorem dX5_measure_99 : decode cX5_measure 99 = .ok (.istore_n 2, 1) := by decide +kernel
theorem dX5_measure_100 : decode cX5_measure 100 = .ok (.iload_n 2, 1) := by decide +kernel
theorem dX5_measure_101 : decode cX5_measure 101 = .ok (.aload_n 0, 1) := by decide +kernel
theorem dX5_measure_102 : decode cX5_measure 102 = .ok (.getfield 68, 3) := by decide +kernel
theorem dX5_measure_105 : decode cX5_measure 105 = .ok (.if_icmp .ge 20, 3) := by decide +kernel
theorem dX5_measure_108 : decode cX5_measure 108 = .ok (.aload_n 0, 1) := by decide +kernel
theorem dX5_measure_109 : decode cX5_measure 109 = .ok (.getfield 22, 3) := by decide +kernel
theorem dX5_measure_112 : decode cX5_measure 112 = .ok (.iload_n 2, 1) := by decide +kernel
theorem dX5_measure_113 : decode cX5_measure 113 = .ok (.aload_n 0, 1) := by decide +kernel
theorem dX5_measure_114 : decode cX5_measure 114 = .ok (.iload_n 2, 1) := by decide +kernel
theorem dX5_measure_115 : decode cX5_measure 115 = .ok (.invokevirtual 109, 3) := by decide +kernel
theorem dX5_measure_118 : decode cX5_measure 118 = .ok (.iastore, 1) := by decide +kernel
theorem dX5_measure_119 : decode cX5_measure 119 = .ok (.iinc 2 1, 3) := by decide +kernel
theorem dX5_measure_122 : decode cX5_measure 122 = .ok (.goto (-22), 3) := by decide +kernel
theorem dX5_measure_125 : decode cX5_measure 125 = .ok (.iload_n 1, 1) := by decide +kernel
theorem dX5_measure_126 : decode cX5_measure 126 = .ok (.ireturn, 1) := by decide +kernel
set_option maxRecDepth 20000 in
theorem ggX5_setMeasuredLoad_X5_isLink : GoodIn wsX5_setMeasuredLoad wsX5_isLink := goodIn_r _ [7, 8, 9, 10, 6, 11, 12, 13, 14, 15, 16, 17, 18, 19, 20, 21, 22, 23, 24, 25, 26, 27, 28, 29, 30, 31] (by decide +kernel) (by decide +kernel)
set_option maxRecDepth 20000 in
theorem gX5_setMeasuredLoad_X5_isLink : GoodIn wsX5_setMeasuredLoad (wsV RX5 79 RX5 yX5_isLink wsX5_isLink) := goodIn_app (goodIn_of _ (by decide +kernel)) ggX5_setMeasuredLoad_X5_isLink
set_option maxRecDepth 20000 in
theorem ggX5_setMeasuredLoad_X5_within : GoodIn wsX5_setMeasuredLoad wsX5_within := goodIn_r _ [11] (by decide +kernel) (by decide +kernel)
set_option maxRecDepth 20000 in
theorem gX5_setMeasuredLoad_X5_within : GoodIn wsX5_setMeasuredLoad (va_wsS RX5 64 yX5_within wsX5_within) := goodIn_app (goodIn_of _ (by decide +kernel)) ggX5_setMeasuredLoad_X5_within
theorem dX5_setMeasuredLoad_0 : decode cX5_setMeasuredLoad 0 = .ok (.aload_n 0, 1) := by decide +kernel
theorem dX5_setMeasuredLoad_1 : decode cX5_setMeasuredLoad 1 = .ok (.iload_n 1, 1) := by decide +kernel
theorem dX5_setMeasuredLoad_2 : decode cX5_setMeasuredLoad 2 = .ok (.invokevirtual 79, 3) := by decide +kernel
theorem dX5_setMeasuredLoad_5 : decode cX5_setMeasuredLoad 5 = .ok (.ifCond .ne 6, 3) := by decide +kernel
theorem dX5_setMeasuredLoad_8 : decode cX5_setMeasuredLoad 8 = .ok (.bipush (-3), 2) := by decide +kernel
theorem dX5_setMeasuredLoad_10 : decode cX5_setMeasuredLoad 10 = .ok (.ireturn, 1) := by decide +kernel
theorem dX5_setMeasuredLoad_11 : decode cX5_setMeasuredLoad 11 = .ok (.iload_n 2, 1) := by decide +kernel
theorem dX5_setMeasuredLoad_12 : decode cX5_setMeasuredLoad 12 = .ok (.iconst 0, 1) := by decide +kernel
theorem dX5_setMeasuredLoad_13 : decode cX5_setMeasuredLoad 13 = .ok (.ldc 112, 2) := by decide +kernel
theorem dX5_setMeasuredLoad_15 : decode cX5_setMeasuredLoad 15 = .ok (.invokestatic 64, 3) := by decide +kernel
theorem dX5_setMeasuredLoad_18 : decode cX5_setMeasuredLoad 18 = .ok (.ifCond .ne 6, 3) := by decide +kernel
theorem dX5_setMeasuredLoad_21 : decode cX5_setMeasuredLoad 21 = .ok (.bipush (-4), 2) := by decide +kernel
theorem dX5_setMeasuredLoad_23 : decode cX5_setMeasuredLoad 23 = .ok (.ireturn, 1) := by decide +kernel
theorem dX5_setMeasuredLoad_24 : decode cX5_setMeasuredLoad 24 = .ok (.aload_n 0, 1) := by decide +kernel
theorem dX5_setMeasuredLoad_25 : decode cX5_setMeasuredLoad 25 = .ok (.getfield 22, 3) := by decide +kernel
theorem dX5_setMeasuredLoad_28 : decode cX5_setMeasuredLoad 28 = .ok (.iload_n 1, 1) := by decide +kernel
theorem dX5_setMeasuredLoad_29 : decode cX5_setMeasuredLoad 29 = .ok (.iaload, 1) := by decide +kernel
theorem dX5_setMeasuredLoad_30 : decode cX5_setMeasuredLoad 30 = .ok (.istore_n 3, 1) := by decide +kernel
theorem dX5_setMeasuredLoad_31 : decode cX5_setMeasuredLoad 31 = .ok (.aload_n 0, 1) := by decide +kernel
theorem dX5_setMeasuredLoad_32 : decode cX5_setMeasuredLoad 32 = .ok (.getfield 22, 3) := by decide +kernel
theorem dX5_setMeasuredLoad_35 : decode cX5_setMeasuredLoad 35 = .ok (.iload_n 1, 1) := by decide +kernel
theorem dX5_setMeasuredLoad_36 : decode cX5_setMeasuredLoad 36 = .ok (.iload_n 2, 1) := by decide +kernel
theorem dX5_setMeasuredLoad_37 : decode cX5_setMeasuredLoad 37 = .ok (.iastore, 1) := by decide +kernel
theorem dX5_setMeasuredLoad_38 : decode cX5_setMeasuredLoad 38 = .ok (.iload_n 3, 1) := by decide +kernel
theorem dX5_setMeasuredLoad_39 : decode cX5_setMeasuredLoad 39 = .ok (.ireturn, 1) := by decide +kernel
set_option maxRecDepth 20000 in
theorem ggX5_measuredLoad_X5_isLink : GoodIn wsX5_measuredLoad wsX5_isLink := goodIn_r _ [6, 7, 8, 9, 5, 10, 11, 12, 13, 14, 15, 16, 17, 18, 19, 20, 21, 22, 23, 24, 25, 26, 27, 28, 29, 30] (by decide +kernel) (by decide +kernel)
set_option maxRecDepth 20000 in
theorem gX5_measuredLoad_X5_isLink : GoodIn wsX5_measuredLoad (wsV RX5 79 RX5 yX5_isLink wsX5_isLink) := goodIn_app (goodIn_of _ (by decide +kernel)) ggX5_measuredLoad_X5_isLink
theorem dX5_measuredLoad_0 : decode cX5_measuredLoad 0 = .ok (.aload_n 0, 1) := by decide +kernel
theorem dX5_measuredLoad_1 : decode cX5_measuredLoad 1 = .ok (.iload_n 1, 1) := by decide +kernel
theorem dX5_measuredLoad_2 : decode cX5_measuredLoad 2 = .ok (.invokevirtual 79, 3) := by decide +kernel
theorem dX5_measuredLoad_5 : decode cX5_measuredLoad 5 = .ok (.ifCond .eq 12, 3) := by decide +kernel
theorem dX5_measuredLoad_8 : decode cX5_measuredLoad 8 = .ok (.aload_n 0, 1) := by decide +kernel
theorem dX5_measuredLoad_9 : decode cX5_measuredLoad 9 = .ok (.getfield 22, 3) := by decide +kernel
theorem dX5_measuredLoad_12 : decode cX5_measuredLoad 12 = .ok (.iload_n 1, 1) := by decide +kernel
theorem dX5_measuredLoad_13 : decode cX5_measuredLoad 13 = .ok (.iaload, 1) := by decide +kernel
theorem dX5_measuredLoad_14 : decode cX5_measuredLoad 14 = .ok (.goto 5, 3) := by decide +kernel
theorem dX5_measuredLoad_17 : decode cX5_measuredLoad 17 = .ok (.bipush (-3), 2) := by decide +kernel
theorem dX5_measuredLoad_19 : decode cX5_measuredLoad 19 = .ok (.ireturn, 1) := by decide +kernel
set_option maxRecDepth 20000 in
theorem ggX5_outTotal_X5_isNode : GoodIn wsX5_outTotal wsX5_isNode := goodIn_r _ [6, 7, 8, 9, 5, 10, 11, 12, 13, 14, 15, 16, 17, 18, 19, 20, 21, 22, 23, 24, 25, 26, 27, 28, 29, 30] (by decide +kernel) (by decide +kernel)
set_option maxRecDepth 20000 in
theorem gX5_outTotal_X5_isNode : GoodIn wsX5_outTotal (wsV RX5 71 RX5 yX5_isNode wsX5_isNode) := goodIn_app (goodIn_of _ (by decide +kernel)) ggX5_outTotal_X5_isNode
theorem dX5_outTotal_0 : decode cX5_outTotal 0 = .ok (.aload_n 0, 1) := by decide +kernel
theorem dX5_outTotal_1 : decode cX5_outTotal 1 = .ok (.iload_n 1, 1) := by decide +kernel
theorem dX5_outTotal_2 : decode cX5_outTotal 2 = .ok (.invokevirtual 71, 3) := by decide +kernel
theorem dX5_outTotal_5 : decode cX5_outTotal 5 = .ok (.ifCond .eq 12, 3) := by decide +kernel
theorem dX5_outTotal_8 : decode cX5_outTotal 8 = .ok (.aload_n 0, 1) := by decide +kernel
theorem dX5_outTotal_9 : decode cX5_outTotal 9 = .ok (.getfield 25, 3) := by decide +kernel
theorem dX5_outTotal_12 : decode cX5_outTotal 12 = .ok (.iload_n 1, 1) := by decide +kernel
theorem dX5_outTotal_13 : decode cX5_outTotal 13 = .ok (.iaload, 1) := by decide +kernel
theorem dX5_outTotal_14 : decode cX5_outTotal 14 = .ok (.goto 4, 3) := by decide +kernel
theorem dX5_outTotal_17 : decode cX5_outTotal 17 = .ok (.iconst (-1), 1) := by decide +kernel
theorem dX5_outTotal_18 : decode cX5_outTotal 18 = .ok (.ireturn, 1) := by decide +kernel
set_option maxRecDepth 20000 in
theorem ggX5_inTotal_X5_isNode : GoodIn wsX5_inTotal wsX5_isNode := goodIn_r _ [6, 7, 8, 9, 5, 10, 11, 12, 13, 14, 15, 16, 17, 18, 19, 20, 21, 22, 23, 24, 25, 26, 27, 28, 29, 30] (by decide +kernel) (by decide +kernel)
set_option maxRecDepth 20000 in
theorem gX5_inTotal_X5_isNode : GoodIn wsX5_inTotal (wsV RX5 71 RX5 yX5_isNode wsX5_isNode) := goodIn_app (goodIn_of _ (by decide +kernel)) ggX5_inTotal_X5_isNode
theorem dX5_inTotal_0 : decode cX5_inTotal 0 = .ok (.aload_n 0, 1) := by decide +kernel
theorem dX5_inTotal_1 : decode cX5_inTotal 1 = .ok (.iload_n 1, 1) := by decide +kernel
theorem dX5_inTotal_2 : decode cX5_inTotal 2 = .ok (.invokevirtual 71, 3) := by decide +kernel
theorem dX5_inTotal_5 : decode cX5_inTotal 5 = .ok (.ifCond .eq 12, 3) := by decide +kernel
theorem dX5_inTotal_8 : decode cX5_inTotal 8 = .ok (.aload_n 0, 1) := by decide +kernel
theorem dX5_inTotal_9 : decode cX5_inTotal 9 = .ok (.getfield 28, 3) := by decide +kernel
theorem dX5_inTotal_12 : decode cX5_inTotal 12 = .ok (.iload_n 1, 1) := by decide +kernel
theorem dX5_inTotal_13 : decode cX5_inTotal 13 = .ok (.iaload, 1) := by decide +kernel
theorem dX5_inTotal_14 : decode cX5_inTotal 14 = .ok (.goto 4, 3) := by decide +kernel
theorem dX5_inTotal_17 : decode cX5_inTotal 17 = .ok (.iconst (-1), 1) := by decide +kernel
theorem dX5_inTotal_18 : decode cX5_inTotal 18 = .ok (.ireturn, 1) := by decide +kernel
set_option maxRecDepth 20000 in
theorem ggX5_measurePair_X5_refusedRoute : GoodIn wsX5_measurePair wsX5_refusedRoute := goodIn_r _ [8, 9, 10, 11, 7, 12, 13, 14, 15, 16, 17, 18, 19, 20, 21, 22, 23, 24, 25, 26, 27, 28, 29, 30, 31, 32, 33, 34, 35, 36, 37, 38, 39, 40, 41, 42, 43, 44, 45, 46, 47, 48, 49, 50, 51, 52, 53, 54, 55, 56, 57, 58, 59, 60, 61, 62, 63, 64, 65, 66, 67, 68, 69, 70, 71] (by decide +kernel) (by decide +kernel)
set_option maxRecDepth 20000 in
theorem gX5_measurePair_X5_refusedRoute : GoodIn wsX5_measurePair (wsV RX5 102 RX5 yX5_refusedRoute wsX5_refusedRoute) := goodIn_app (goodIn_of _ (by decide +kernel)) ggX5_measurePair_X5_refusedRoute
theorem dX5_measurePair_0 : decode cX5_measurePair 0 = .ok (.aload_n 0, 1) := by decide +kernel
theorem dX5_measurePair_1 : decode cX5_measurePair 1 = .ok (.iload_n 1, 1) := by decide +kernel
theorem dX5_measurePair_2 : decode cX5_measurePair 2 = .ok (.iload_n 2, 1) := by decide +kernel
theorem dX5_measurePair_3 : decode cX5_measurePair 3 = .ok (.invokevirtual 102, 3) := by decide +kernel
theorem dX5_measurePair_6 : decode cX5_measurePair 6 = .ok (.istore_n 3, 1) := by decide +kernel
theorem dX5_measurePair_7 : decode cX5_measurePair 7 = .ok (.iload_n 3, 1) := by decide +kernel
theorem dX5_measurePair_8 : decode cX5_measurePair 8 = .ok (.ifCond .eq 5, 3) := by decide +kernel
theorem dX5_measurePair_11 : decode cX5_measurePair 11 = .ok (.iload_n 3, 1) := by decide +kernel
theorem dX5_measurePair_12 : decode cX5_measurePair 12 = .ok (.ireturn, 1) := by decide +kernel
theorem dX5_measurePair_13 : decode cX5_measurePair 13 = .ok (.iconst 5, 1) := by decide +kernel
theorem dX5_measurePair_14 : decode cX5_measurePair 14 = .ok (.iload_n 1, 1) := by decide +kernel
theorem dX5_measurePair_15 : decode cX5_measurePair 15 = .ok (.imul, 1) := by decide +kernel
theorem dX5_measurePair_16 : decode cX5_measurePair 16 = .ok (.iload_n 2, 1) := by decide +kernel
theorem dX5_measurePair_17 : decode cX5_measurePair 17 = .ok (.iadd, 1) := by decide +kernel
theorem dX5_measurePair_18 : decode cX5_measurePair 18 = .ok (.istore 4, 2) := by decide +kernel
theorem dX5_measurePair_20 : decode cX5_measurePair 20 = .ok (.aload_n 0, 1) := by decide +kernel
theorem dX5_measurePair_21 : decode cX5_measurePair 21 = .ok (.getfield 31, 3) := by decide +kernel
theorem dX5_measurePair_24 : decode cX5_measurePair 24 = .ok (.iload 4, 2) := by decide +kernel
theorem dX5_measurePair_26 : decode cX5_measurePair 26 = .ok (.iconst 1, 1) := by decide +kernel
theorem dX5_measurePair_27 : decode cX5_measurePair 27 = .ok (.bastore, 1) := by decide +kernel
theorem dX5_measurePair_28 : decode cX5_measurePair 28 = .ok (.aload_n 0, 1) := by decide +kernel
theorem dX5_measurePair_29 : decode cX5_measurePair 29 = .ok (.getfield 35, 3) := by decide +kernel
theorem dX5_measurePair_32 : decode cX5_measurePair 32 = .ok (.iload 4, 2) := by decide +kernel
theorem dX5_measurePair_34 : decode cX5_measurePair 34 = .ok (.aload_n 0, 1) := by decide +kernel
theorem dX5_measurePair_35 : decode cX5_measurePair 35 = .ok (.getfield 19, 3) := by decide +kernel
theorem dX5_measurePair_38 : decode cX5_measurePair 38 = .ok (.iload 4, 2) := by decide +kernel
theorem dX5_measurePair_40 : decode cX5_measurePair 40 = .ok (.iaload, 1) := by decide +kernel
theorem dX5_measurePair_41 : decode cX5_measurePair 41 = .ok (.iastore, 1) := by decide +kernel
theorem dX5_measurePair_42 : decode cX5_measurePair 42 = .ok (.aload_n 0, 1) := by decide +kernel
theorem dX5_measurePair_43 : decode cX5_measurePair 43 = .ok (.getfield 19, 3) := by decide +kernel
theorem dX5_measurePair_46 : decode cX5_measurePair 46 = .ok (.iload 4, 2) := by decide +kernel
theorem dX5_measurePair_48 : decode cX5_measurePair 48 = .ok (.iaload, 1) := by decide +kernel
theorem dX5_measurePair_49 : decode cX5_measurePair 49 = .ok (.ireturn, 1) := by decide +kernel
set_option maxRecDepth 20000 in
theorem ggX5_forgetPair_X5_refused : GoodIn wsX5_forgetPair wsX5_refused := goodIn_r _ [7, 8, 9, 10, 6, 11, 12, 13, 14, 15, 16, 17, 18, 19, 20, 21, 22, 23, 24, 25, 26, 27, 28, 29, 30, 31, 32, 33, 34, 35] (by decide +kernel) (by decide +kernel)
set_option maxRecDepth 20000 in
theorem gX5_forgetPair_X5_refused : GoodIn wsX5_forgetPair (wsV RX5 75 RX5 yX5_refused wsX5_refused) := goodIn_app (goodIn_of _ (by decide +kernel)) ggX5_forgetPair_X5_refused
theorem dX5_forgetPair_0 : decode cX5_forgetPair 0 = .ok (.aload_n 0, 1) := by decide +kernel
theorem dX5_forgetPair_1 : decode cX5_forgetPair 1 = .ok (.iload_n 1, 1) := by decide +kernel
theorem dX5_forgetPair_2 : decode cX5_forgetPair 2 = .ok (.iload_n 2, 1) := by decide +kernel
theorem dX5_forgetPair_3 : decode cX5_forgetPair 3 = .ok (.invokevirtual 75, 3) := by decide +kernel
theorem dX5_forgetPair_6 : decode cX5_forgetPair 6 = .ok (.istore_n 3, 1) := by decide +kernel
theorem dX5_forgetPair_7 : decode cX5_forgetPair 7 = .ok (.iload_n 3, 1) := by decide +kernel
theorem dX5_forgetPair_8 : decode cX5_forgetPair 8 = .ok (.ifCond .eq 5, 3) := by decide +kernel
theorem dX5_forgetPair_11 : decode cX5_forgetPair 11 = .ok (.iload_n 3, 1) := by decide +kernel
theorem dX5_forgetPair_12 : decode cX5_forgetPair 12 = .ok (.ireturn, 1) := by decide +kernel
theorem dX5_forgetPair_13 : decode cX5_forgetPair 13 = .ok (.iconst 5, 1) := by decide +kernel
theorem dX5_forgetPair_14 : decode cX5_forgetPair 14 = .ok (.iload_n 1, 1) := by decide +kernel
theorem dX5_forgetPair_15 : decode cX5_forgetPair 15 = .ok (.imul, 1) := by decide +kernel
theorem dX5_forgetPair_16 : decode cX5_forgetPair 16 = .ok (.iload_n 2, 1) := by decide +kernel
theorem dX5_forgetPair_17 : decode cX5_forgetPair 17 = .ok (.iadd, 1) := by decide +kernel
theorem dX5_forgetPair_18 : decode cX5_forgetPair 18 = .ok (.istore 4, 2) := by decide +kernel
theorem dX5_forgetPair_20 : decode cX5_forgetPair 20 = .ok (.aload_n 0, 1) := by decide +kernel
theorem dX5_forgetPair_21 : decode cX5_forgetPair 21 = .ok (.getfield 31, 3) := by decide +kernel
theorem dX5_forgetPair_24 : decode cX5_forgetPair 24 = .ok (.iload 4, 2) := by decide +kernel
theorem dX5_forgetPair_26 : decode cX5_forgetPair 26 = .ok (.baload, 1) := by decide +kernel
theorem dX5_forgetPair_27 : decode cX5_forgetPair 27 = .ok (.ifCond .ne 6, 3) := by decide +kernel
theorem dX5_forgetPair_30 : decode cX5_forgetPair 30 = .ok (.bipush (-7), 2) := by decide +kernel
theorem dX5_forgetPair_32 : decode cX5_forgetPair 32 = .ok (.ireturn, 1) := by decide +kernel
theorem dX5_forgetPair_33 : decode cX5_forgetPair 33 = .ok (.aload_n 0, 1) := by decide +kernel
theorem dX5_forgetPair_34 : decode cX5_forgetPair 34 = .ok (.getfield 31, 3) := by decide +kernel
theorem dX5_forgetPair_37 : decode cX5_forgetPair 37 = .ok (.iload 4, 2) := by decide +kernel
theorem dX5_forgetPair_39 : decode cX5_forgetPair 39 = .ok (.iconst 0, 1) := by decide +kernel
theorem dX5_forgetPair_40 : decode cX5_forgetPair 40 = .ok (.bastore, 1) := by decide +kernel
theorem dX5_forgetPair_41 : decode cX5_forgetPair 41 = .ok (.aload_n 0, 1) := by decide +kernel
theorem dX5_forgetPair_42 : decode cX5_forgetPair 42 = .ok (.getfield 35, 3) := by decide +kernel
theorem dX5_forgetPair_45 : decode cX5_forgetPair 45 = .ok (.iload 4, 2) := by decide +kernel
theorem dX5_forgetPair_47 : decode cX5_forgetPair 47 = .ok (.iaload, 1) := by decide +kernel
theorem dX5_forgetPair_48 : decode cX5_forgetPair 48 = .ok (.ireturn, 1) := by decide +kernel
set_option maxRecDepth 20000 in
theorem ggX5_laysOut_X5_hasRoute : GoodIn wsX5_laysOut wsX5_hasRoute := goodIn_r _ [12, 13, 18, 19, 20, 21, 22, 23, 24, 25, 26, 27, 28, 29, 30, 31, 32, 33, 34, 35, 36, 37] (by decide +kernel) (by decide +kernel)
set_option maxRecDepth 20000 in
theorem gX5_laysOut_X5_hasRoute : GoodIn wsX5_laysOut (wsV RX5 99 RX5 yX5_hasRoute wsX5_hasRoute) := goodIn_app (goodIn_of _ (by decide +kernel)) ggX5_laysOut_X5_hasRoute
set_option maxRecDepth 20000 in
theorem ggX5_laysOut_X5_uses : GoodIn wsX5_laysOut wsX5_uses := goodIn_r _ [17, 13, 18, 19, 20, 21, 22, 23, 24, 25, 26, 27, 28, 29, 30, 31, 32, 33, 34, 35, 36, 37] (by decide +kernel) (by decide +kernel)
set_option maxRecDepth 20000 in
theorem gX5_laysOut_X5_uses : GoodIn wsX5_laysOut (wsV RX5 105 RX5 yX5_uses wsX5_uses) := goodIn_app (goodIn_of _ (by decide +kernel)) ggX5_laysOut_X5_uses
theorem dX5_laysOut_0 : decode cX5_laysOut 0 = .ok (.aload_n 0, 1) := by decide +kernel
theorem dX5_laysOut_1 : decode cX5_laysOut 1 = .ok (.iconst 0, 1) := by decide +kernel
theorem dX5_laysOut_2 : decode cX5_laysOut 2 = .ok (.putfield 113, 3) := by decide +kernel
theorem dX5_laysOut_5 : decode cX5_laysOut 5 = .ok (.iconst 0, 1) := by decide +kernel
theorem dX5_laysOut_6 : decode cX5_laysOut 6 = .ok (.istore_n 2, 1) := by decide +kernel
theorem dX5_laysOut_7 : decode cX5_laysOut 7 = .ok (.iload_n 2, 1) := by decide +kernel
theorem dX5_laysOut_8 : decode cX5_laysOut 8 = .ok (.bipush 25, 2) := by decide +kernel
theorem dX5_laysOut_10 : decode cX5_laysOut 10 = .ok (.if_icmp .ge 53, 3) := by decide +kernel
theorem dX5_laysOut_13 : decode cX5_laysOut 13 = .ok (.aload_n 0, 1) := by decide +kernel
theorem dX5_laysOut_14 : decode cX5_laysOut 14 = .ok (.getfield 51, 3) := by decide +kernel
theorem dX5_laysOut_17 : decode cX5_laysOut 17 = .ok (.iload_n 2, 1) := by decide +kernel
theorem dX5_laysOut_18 : decode cX5_laysOut 18 = .ok (.bipush (-7), 2) := by decide +kernel
theorem dX5_laysOut_20 : decode cX5_laysOut 20 = .ok (.iastore, 1) := by decide +kernel
theorem dX5_laysOut_21 : decode cX5_laysOut 21 = .ok (.aload_n 0, 1) := by decide +kernel
theorem dX5_laysOut_22 : decode cX5_laysOut 22 = .ok (.dup, 1) := by decide +kernel
theorem dX5_laysOut_23 : decode cX5_laysOut 23 = .ok (.getfield 113, 3) := by decide +kernel
theorem dX5_laysOut_26 : decode cX5_laysOut 26 = .ok (.aload_n 0, 1) := by decide +kernel
theorem dX5_laysOut_27 : decode cX5_laysOut 27 = .ok (.iload_n 2, 1) := by decide +kernel
theorem dX5_laysOut_28 : decode cX5_laysOut 28 = .ok (.invokevirtual 99, 3) := by decide +kernel
theorem dX5_laysOut_31 : decode cX5_laysOut 31 = .ok (.ifCond .eq 21, 3) := by decide +kernel
theorem dX5_laysOut_34 : decode cX5_laysOut 34 = .ok (.aload_n 0, 1) := by decide +kernel
theorem dX5_laysOut_35 : decode cX5_laysOut 35 = .ok (.getfield 31, 3) := by decide +kernel
theorem dX5_laysOut_38 : decode cX5_laysOut 38 = .ok (.iload_n 2, 1) := by decide +kernel
theorem dX5_laysOut_39 : decode cX5_laysOut 39 = .ok (.baload, 1) := by decide +kernel
theorem dX5_laysOut_40 : decode cX5_laysOut 40 = .ok (.ifCond .ne 8, 3) := by decide +kernel
theorem dX5_laysOut_43 : decode cX5_laysOut 43 = .ok (.iload_n 2, 1) := by decide +kernel
theorem dX5_laysOut_44 : decode cX5_laysOut 44 = .ok (.iload_n 1, 1) := by decide +kernel
theorem dX5_laysOut_45 : decode cX5_laysOut 45 = .ok (.if_icmp .ne 7, 3) := by decide +kernel
theorem dX5_laysOut_48 : decode cX5_laysOut 48 = .ok (.iconst 1, 1) := by decide +kernel
theorem dX5_laysOut_49 : decode cX5_laysOut 49 = .ok (.goto 4, 3) := by decide +kernel
theorem dX5_laysOut_52 : decode cX5_laysOut 52 = .ok (.iconst 0, 1) := by decide +kernel
theorem dX5_laysOut_53 : decode cX5_laysOut 53 = .ok (.iadd, 1) := by decide +kernel
theorem dX5_laysOut_54 : decode cX5_laysOut 54 = .ok (.putfield 113, 3) := by decide +kernel
theorem dX5_laysOut_57 : decode cX5_laysOut 57 = .ok (.iinc 2 1, 3) := by decide +kernel
theorem dX5_laysOut_60 : decode cX5_laysOut 60 = .ok (.goto (-53), 3) := by decide +kernel
theorem dX5_laysOut_63 : decode cX5_laysOut 63 = .ok (.iconst 0, 1) := by decide +kernel
theorem dX5_laysOut_64 : decode cX5_laysOut 64 = .ok (.istore_n 2, 1) := by decide +kernel
theorem dX5_laysOut_65 : decode cX5_laysOut 65 = .ok (.iload_n 2, 1) := by decide +kernel
theorem dX5_laysOut_66 : decode cX5_laysOut 66 = .ok (.aload_n 0, 1) := by decide +kernel
theorem dX5_laysOut_67 : decode cX5_laysOut 67 = .ok (.getfield 68, 3) := by decide +kernel
theorem dX5_laysOut_70 : decode cX5_laysOut 70 = .ok (.if_icmp .ge 135, 3) := by decide +kernel
theorem dX5_laysOut_73 : decode cX5_laysOut 73 = .ok (.aload_n 0, 1) := by decide +kernel
theorem dX5_laysOut_74 : decode cX5_laysOut 74 = .ok (.getfield 22, 3) := by decide +kernel
theorem dX5_laysOut_77 : decode cX5_laysOut 77 = .ok (.iload_n 2, 1) := by decide +kernel
theorem dX5_laysOut_78 : decode cX5_laysOut 78 = .ok (.iaload, 1) := by decide +kernel
theorem dX5_laysOut_79 : decode cX5_laysOut 79 = .ok (.i2l, 1) := by decide +kernel
theorem dX5_laysOut_80 : decode cX5_laysOut 80 = .ok (.lstore_n 3, 1) := by decide +kernel
theorem dX5_laysOut_81 : decode cX5_laysOut 81 = .ok (.iconst 0, 1) := by decide +kernel
theorem dX5_laysOut_82 : decode cX5_laysOut 82 = .ok (.istore 5, 2) := by decide +kernel
theorem dX5_laysOut_84 : decode cX5_laysOut 84 = .ok (.iload 5, 2) := by decide +kernel
theorem dX5_laysOut_86 : decode cX5_laysOut 86 = .ok (.bipush 25, 2) := by decide +kernel
theorem dX5_laysOut_88 : decode cX5_laysOut 88 = .ok (.if_icmp .ge 98, 3) := by decide +kernel
theorem dX5_laysOut_91 : decode cX5_laysOut 91 = .ok (.aload_n 0, 1) := by decide +kernel
theorem dX5_laysOut_92 : decode cX5_laysOut 92 = .ok (.iload 5, 2) := by decide +kernel
theorem dX5_laysOut_94 : decode cX5_laysOut 94 = .ok (.iload_n 2, 1) := by decide +kernel
theorem dX5_laysOut_95 : decode cX5_laysOut 95 = .ok (.invokevirtual 105, 3) := by decide +kernel
theorem dX5_laysOut_98 : decode cX5_laysOut 98 = .ok (.istore 6, 2) := by decide +kernel
theorem dX5_laysOut_100 : decode cX5_laysOut 100 = .ok (.aload_n 0, 1) := by decide +kernel
theorem dX5_laysOut_101 : decode cX5_laysOut 101 = .ok (.getfield 31, 3) := by decide +kernel
theorem dX5_laysOut_104 : decode cX5_laysOut 104 = .ok (.iload 5, 2) := by decide +kernel
theorem dX5_laysOut_106 : decode cX5_laysOut 106 = .ok (.baload, 1) := by decide +kernel
theorem dX5_laysOut_107 : decode cX5_laysOut 107 = .ok (.ifCond .ne 9, 3) := by decide +kernel
theorem dX5_laysOut_110 : decode cX5_laysOut 110 = .ok (.iload 5, 2) := by decide +kernel
theorem dX5_laysOut_112 : decode cX5_laysOut 112 = .ok (.iload_n 1, 1) := by decide +kernel
theorem dX5_laysOut_113 : decode cX5_laysOut 113 = .ok (.if_icmp .ne 7, 3) := by decide +kernel
theorem dX5_laysOut_116 : decode cX5_laysOut 116 = .ok (.iconst 1, 1) := by decide +kernel
theorem dX5_laysOut_117 : decode cX5_laysOut 117 = .ok (.goto 4, 3) := by decide +kernel
theorem dX5_laysOut_120 : decode cX5_laysOut 120 = .ok (.iconst 0, 1) := by decide +kernel
theorem dX5_laysOut_121 : decode cX5_laysOut 121 = .ok (.istore 7, 2) := by decide +kernel
theorem dX5_laysOut_123 : decode cX5_laysOut 123 = .ok (.aload_n 0, 1) := by decide +kernel
theorem dX5_laysOut_124 : decode cX5_laysOut 124 = .ok (.getfield 48, 3) := by decide +kernel
theorem dX5_laysOut_127 : decode cX5_laysOut 127 = .ok (.bipush 26, 2) := by decide +kernel
theorem dX5_laysOut_129 : decode cX5_laysOut 129 = .ok (.iload_n 2, 1) := by decide +kernel
theorem dX5_laysOut_130 : decode cX5_laysOut 130 = .ok (.imul, 1) := by decide +kernel
theorem dX5_laysOut_131 : decode cX5_laysOut 131 = .ok (.iload 5, 2) := by decide +kernel
theorem dX5_laysOut_133 : decode cX5_laysOut 133 = .ok (.iadd, 1) := by decide +kernel
theorem dX5_laysOut_134 : decode cX5_laysOut 134 = .ok (.iload 6, 2) := by decide +kernel
theorem dX5_laysOut_136 : decode cX5_laysOut 136 = .ok (.ifCond .eq 12, 3) := by decide +kernel
theorem dX5_laysOut_139 : decode cX5_laysOut 139 = .ok (.iload 7, 2) := by decide +kernel
theorem dX5_laysOut_141 : decode cX5_laysOut 141 = .ok (.ifCond .ne 7, 3) := by decide +kernel
theorem dX5_laysOut_144 : decode cX5_laysOut 144 = .ok (.lconst 1, 1) := by decide +kernel
theorem dX5_laysOut_145 : decode cX5_laysOut 145 = .ok (.goto 4, 3) := by decide +kernel
theorem dX5_laysOut_148 : decode cX5_laysOut 148 = .ok (.lconst 0, 1) := by decide +kernel
theorem dX5_laysOut_149 : decode cX5_laysOut 149 = .ok (.lastore, 1) := by decide +kernel
theorem dX5_laysOut_150 : decode cX5_laysOut 150 = .ok (.lload_n 3, 1) := by decide +kernel
theorem dX5_laysOut_151 : decode cX5_laysOut 151 = .ok (.iload 6, 2) := by decide +kernel
theorem dX5_laysOut_153 : decode cX5_laysOut 153 = .ok (.ifCond .eq 24, 3) := by decide +kernel
theorem dX5_laysOut_156 : decode cX5_laysOut 156 = .ok (.aload_n 0, 1) := by decide +kernel
theorem dX5_laysOut_157 : decode cX5_laysOut 157 = .ok (.getfield 31, 3) := by decide +kernel
theorem dX5_laysOut_160 : decode cX5_laysOut 160 = .ok (.iload 5, 2) := by decide +kernel
theorem dX5_laysOut_162 : decode cX5_laysOut 162 = .ok (.baload, 1) := by decide +kernel
theorem dX5_laysOut_163 : decode cX5_laysOut 163 = .ok (.ifCond .eq 14, 3) := by decide +kernel
theorem dX5_laysOut_166 : decode cX5_laysOut 166 = .ok (.aload_n 0, 1) := by decide +kernel
theorem dX5_laysOut_167 : decode cX5_laysOut 167 = .ok (.getfield 35, 3) := by decide +kernel
theorem dX5_laysOut_170 : decode cX5_laysOut 170 = .ok (.iload 5, 2) := by decide +kernel
theorem dX5_laysOut_172 : decode cX5_laysOut 172 = .ok (.iaload, 1) := by decide +kernel
theorem dX5_laysOut_173 : decode cX5_laysOut 173 = .ok (.i2l, 1) := by decide +kernel
theorem dX5_laysOut_174 : decode cX5_laysOut 174 = .ok (.goto 4, 3) := by decide +kernel
theorem dX5_laysOut_177 : decode cX5_laysOut 177 = .ok (.lconst 0, 1) := by decide +kernel
theorem dX5_laysOut_178 : decode cX5_laysOut 178 = .ok (.lsub, 1) := by decide +kernel
theorem dX5_laysOut_179 : decode cX5_laysOut 179 = .ok (.lstore_n 3, 1) := by decide +kernel
theorem dX5_laysOut_180 : decode cX5_laysOut 180 = .ok (.iinc 5 1, 3) := by decide +kernel
theorem dX5_laysOut_183 : decode cX5_laysOut 183 = .ok (.goto (-99), 3) := by decide +kernel
theorem dX5_laysOut_186 : decode cX5_laysOut 186 = .ok (.aload_n 0, 1) := by decide +kernel
theorem dX5_laysOut_187 : decode cX5_laysOut 187 = .ok (.getfield 48, 3) := by decide +kernel
theorem dX5_laysOut_190 : decode cX5_laysOut 190 = .ok (.bipush 26, 2) := by decide +kernel
theorem dX5_laysOut_192 : decode cX5_laysOut 192 = .ok (.iload_n 2, 1) := by decide +kernel
theorem dX5_laysOut_193 : decode cX5_laysOut 193 = .ok (.imul, 1) := by decide +kernel
theorem dX5_laysOut_194 : decode cX5_laysOut 194 = .ok (.bipush 25, 2) := by decide +kernel
theorem dX5_laysOut_196 : decode cX5_laysOut 196 = .ok (.iadd, 1) := by decide +kernel
theorem dX5_laysOut_197 : decode cX5_laysOut 197 = .ok (.lload_n 3, 1) := by decide +kernel
theorem dX5_laysOut_198 : decode cX5_laysOut 198 = .ok (.lastore, 1) := by decide +kernel
theorem dX5_laysOut_199 : decode cX5_laysOut 199 = .ok (.iinc 2 1, 3) := by decide +kernel
theorem dX5_laysOut_202 : decode cX5_laysOut 202 = .ok (.goto (-137), 3) := by decide +kernel
theorem dX5_laysOut_205 : decode cX5_laysOut 205 = .ok (.return_, 1) := by decide +kernel
end
section
theorem dX5_common_0 : decode cX5_common 0 = .ok (.lload_n 0, 1) := by decide +kernel
theorem dX5_common_1 : decode cX5_common 1 = .ok (.lconst 0, 1) := by decide +kernel
theorem dX5_common_2 : decode cX5_common 2 = .ok (.lcmp, 1) := by decide +kernel
theorem dX5_common_3 : decode cX5_common 3 = .ok (.ifCond .ge 8, 3) := by decide +kernel
theorem dX5_common_6 : decode cX5_common 6 = .ok (.lload_n 0, 1) := by decide +kernel
theorem dX5_common_7 : decode cX5_common 7 = .ok (.lneg, 1) := by decide +kernel
theorem dX5_common_8 : decode cX5_common 8 = .ok (.goto 4, 3) := by decide +kernel
theorem dX5_common_11 : decode cX5_common 11 = .ok (.lload_n 0, 1) := by decide +kernel
theorem dX5_common_12 : decode cX5_common 12 = .ok (.lstore 4, 2) := by decide +kernel
theorem dX5_common_14 : decode cX5_common 14 = .ok (.lload_n 2, 1) := by decide +kernel
theorem dX5_common_15 : decode cX5_common 15 = .ok (.lconst 0, 1) := by decide +kernel
theorem dX5_common_16 : decode cX5_common 16 = .ok (.lcmp, 1) := by decide +kernel
theorem dX5_common_17 : decode cX5_common 17 = .ok (.ifCond .ge 8, 3) := by decide +kernel
theorem dX5_common_20 : decode cX5_common 20 = .ok (.lload_n 2, 1) := by decide +kernel
theorem dX5_common_21 : decode cX5_common 21 = .ok (.lneg, 1) := by decide +kernel
theorem dX5_common_22 : decode cX5_common 22 = .ok (.goto 4, 3) := by decide +kernel
theorem dX5_common_25 : decode cX5_common 25 = .ok (.lload_n 2, 1) := by decide +kernel
theorem dX5_common_26 : decode cX5_common 26 = .ok (.lstore 6, 2) := by decide +kernel
theorem dX5_common_28 : decode cX5_common 28 = .ok (.lload 6, 2) := by decide +kernel
theorem dX5_common_30 : decode cX5_common 30 = .ok (.lconst 0, 1) := by decide +kernel
theorem dX5_common_31 : decode cX5_common 31 = .ok (.lcmp, 1) := by decide +kernel
theorem dX5_common_32 : decode cX5_common 32 = .ok (.ifCond .eq 21, 3) := by decide +kernel
theorem dX5_common_35 : decode cX5_common 35 = .ok (.lload 4, 2) := by decide +kernel
theorem dX5_common_37 : decode cX5_common 37 = .ok (.lload 6, 2) := by decide +kernel
theorem dX5_common_39 : decode cX5_common 39 = .ok (.lrem, 1) := by decide +kernel
theorem dX5_common_40 : decode cX5_common 40 = .ok (.lstore 8, 2) := by decide +kernel
theorem dX5_common_42 : decode cX5_common 42 = .ok (.lload 6, 2) := by decide +kernel
theorem dX5_common_44 : decode cX5_common 44 = .ok (.lstore 4, 2) := by decide +kernel
theorem dX5_common_46 : decode cX5_common 46 = .ok (.lload 8, 2) := by decide +kernel
theorem dX5_common_48 : decode cX5_common 48 = .ok (.lstore 6, 2) := by decide +kernel
theorem dX5_common_50 : decode cX5_common 50 = .ok (.goto (-22), 3) := by decide +kernel
theorem dX5_common_53 : decode cX5_common 53 = .ok (.lload 4, 2) := by decide +kernel
theorem dX5_common_55 : decode cX5_common 55 = .ok (.lreturn, 1) := by decide +kernel
set_option maxRecDepth 20000 in
theorem ggX5_shortens_X5_common : GoodIn wsX5_shortens wsX5_common := goodIn_r _ [5] (by decide +kernel) (by decide +kernel)
set_option maxRecDepth 20000 in
theorem gX5_shortens_X5_common : GoodIn wsX5_shortens (va_wsS RX5 116 yX5_common wsX5_common) := goodIn_app (goodIn_of _ (by decide +kernel)) ggX5_shortens_X5_common
theorem dX5_shortens_0 : decode cX5_shortens 0 = .ok (.lconst 0, 1) := by decide +kernel
theorem dX5_shortens_1 : decode cX5_shortens 1 = .ok (.lstore_n 2, 1) := by decide +kernel
theorem dX5_shortens_2 : decode cX5_shortens 2 = .ok (.iconst 0, 1) := by decide +kernel
theorem dX5_shortens_3 : decode cX5_shortens 3 = .ok (.istore 4, 2) := by decide +kernel
theorem dX5_shortens_5 : decode cX5_shortens 5 = .ok (.iload 4, 2) := by decide +kernel
theorem dX5_shortens_7 : decode cX5_shortens 7 = .ok (.bipush 26, 2) := by decide +kernel
theorem dX5_shortens_9 : decode cX5_shortens 9 = .ok (.if_icmp .ge 26, 3) := by decide +kernel
theorem dX5_shortens_12 : decode cX5_shortens 12 = .ok (.lload_n 2, 1) := by decide +kernel
theorem dX5_shortens_13 : decode cX5_shortens 13 = .ok (.aload_n 0, 1) := by decide +kernel
theorem dX5_shortens_14 : decode cX5_shortens 14 = .ok (.getfield 48, 3) := by decide +kernel
theorem dX5_shortens_17 : decode cX5_shortens 17 = .ok (.bipush 26, 2) := by decide +kernel
theorem dX5_shortens_19 : decode cX5_shortens 19 = .ok (.iload_n 1, 1) := by decide +kernel
theorem dX5_shortens_20 : decode cX5_shortens 20 = .ok (.imul, 1) := by decide +kernel
theorem dX5_shortens_21 : decode cX5_shortens 21 = .ok (.iload 4, 2) := by decide +kernel
theorem dX5_shortens_23 : decode cX5_shortens 23 = .ok (.iadd, 1) := by decide +kernel
theorem dX5_shortens_24 : decode cX5_shortens 24 = .ok (.laload, 1) := by decide +kernel
theorem dX5_shortens_25 : decode cX5_shortens 25 = .ok (.invokestatic 116, 3) := by decide +kernel
theorem dX5_shortens_28 : decode cX5_shortens 28 = .ok (.lstore_n 2, 1) := by decide +kernel
theorem dX5_shortens_29 : decode cX5_shortens 29 = .ok (.iinc 4 1, 3) := by decide +kernel
theorem dX5_shortens_32 : decode cX5_shortens 32 = .ok (.goto (-27), 3) := by decide +kernel
theorem dX5_shortens_35 : decode cX5_shortens 35 = .ok (.iconst 0, 1) := by decide +kernel
theorem dX5_shortens_36 : decode cX5_shortens 36 = .ok (.istore 4, 2) := by decide +kernel
theorem dX5_shortens_38 : decode cX5_shortens 38 = .ok (.iload 4, 2) := by decide +kernel
theorem dX5_shortens_40 : decode cX5_shortens 40 = .ok (.bipush 26, 2) := by decide +kernel
theorem dX5_shortens_42 : decode cX5_shortens 42 = .ok (.if_icmp .ge 31, 3) := by decide +kernel
theorem dX5_shortens_45 : decode cX5_shortens 45 = .ok (.lload_n 2, 1) := by decide +kernel
theorem dX5_shortens_46 : decode cX5_shortens 46 = .ok (.lconst 1, 1) := by decide +kernel
theorem dX5_shortens_47 : decode cX5_shortens 47 = .ok (.lcmp, 1) := by decide +kernel
theorem dX5_shortens_48 : decode cX5_shortens 48 = .ok (.ifCond .le 25, 3) := by decide +kernel
theorem dX5_shortens_51 : decode cX5_shortens 51 = .ok (.aload_n 0, 1) := by decide +kernel
theorem dX5_shortens_52 : decode cX5_shortens 52 = .ok (.getfield 48, 3) := by decide +kernel
theorem dX5_shortens_55 : decode cX5_shortens 55 = .ok (.bipush 26, 2) := by decide +kernel
theorem dX5_shortens_57 : decode cX5_shortens 57 = .ok (.iload_n 1, 1) := by decide +kernel
theorem dX5_shortens_58 : decode cX5_shortens 58 = .ok (.imul, 1) := by decide +kernel
theorem dX5_shortens_59 : decode cX5_shortens 59 = .ok (.iload 4, 2) := by decide +kernel
theorem dX5_shortens_61 : decode cX5_shortens 61 = .ok (.iadd, 1) := by decide +kernel
theorem dX5_shortens_62 : decode cX5_shortens 62 = .ok (.dup2, 1) := by decide +kernel
theorem dX5_shortens_63 : decode cX5_shortens 63 = .ok (.laload, 1) := by decide +kernel
theorem dX5_shortens_64 : decode cX5_shortens 64 = .ok (.lload_n 2, 1) := by decide +kernel
theorem dX5_shortens_65 : decode cX5_shortens 65 = .ok (.ldiv, 1) := by decide +kernel
theorem dX5_shortens_66 : decode cX5_shortens 66 = .ok (.lastore, 1) := by decide +kernel
theorem dX5_shortens_67 : decode cX5_shortens 67 = .ok (.iinc 4 1, 3) := by decide +kernel
theorem dX5_shortens_70 : decode cX5_shortens 70 = .ok (.goto (-32), 3) := by decide +kernel
theorem dX5_shortens_73 : decode cX5_shortens 73 = .ok (.return_, 1) := by decide +kernel
theorem dX5_exchanges_0 : decode cX5_exchanges 0 = .ok (.iconst 0, 1) := by decide +kernel
theorem dX5_exchanges_1 : decode cX5_exchanges 1 = .ok (.istore_n 3, 1) := by decide +kernel
theorem dX5_exchanges_2 : decode cX5_exchanges 2 = .ok (.iload_n 3, 1) := by decide +kernel
theorem dX5_exchanges_3 : decode cX5_exchanges 3 = .ok (.bipush 26, 2) := by decide +kernel
theorem dX5_exchanges_5 : decode cX5_exchanges 5 = .ok (.if_icmp .ge 57, 3) := by decide +kernel
theorem dX5_exchanges_8 : decode cX5_exchanges 8 = .ok (.aload_n 0, 1) := by decide +kernel
theorem dX5_exchanges_9 : decode cX5_exchanges 9 = .ok (.getfield 48, 3) := by decide +kernel
theorem dX5_exchanges_12 : decode cX5_exchanges 12 = .ok (.bipush 26, 2) := by decide +kernel
theorem dX5_exchanges_14 : decode cX5_exchanges 14 = .ok (.iload_n 1, 1) := by decide +kernel
theorem dX5_exchanges_15 : decode cX5_exchanges 15 = .ok (.imul, 1) := by decide +kernel
theorem dX5_exchanges_16 : decode cX5_exchanges 16 = .ok (.iload_n 3, 1) := by decide +kernel
theorem dX5_exchanges_17 : decode cX5_exchanges 17 = .ok (.iadd, 1) := by decide +kernel
theorem dX5_exchanges_18 : decode cX5_exchanges 18 = .ok (.laload, 1) := by decide +kernel
theorem dX5_exchanges_19 : decode cX5_exchanges 19 = .ok (.lstore 4, 2) := by decide +kernel
theorem dX5_exchanges_21 : decode cX5_exchanges 21 = .ok (.aload_n 0, 1) := by decide +kernel
theorem dX5_exchanges_22 : decode cX5_exchanges 22 = .ok (.getfield 48, 3) := by decide +kernel
theorem dX5_exchanges_25 : decode cX5_exchanges 25 = .ok (.bipush 26, 2) := by decide +kernel
theorem dX5_exchanges_27 : decode cX5_exchanges 27 = .ok (.iload_n 1, 1) := by decide +kernel
theorem dX5_exchanges_28 : decode cX5_exchanges 28 = .ok (.imul, 1) := by decide +kernel
theorem dX5_exchanges_29 : decode cX5_exchanges 29 = .ok (.iload_n 3, 1) := by decide +kernel
theorem dX5_exchanges_30 : decode cX5_exchanges 30 = .ok (.iadd, 1) := by decide +kernel
theorem dX5_exchanges_31 : decode cX5_exchanges 31 = .ok (.aload_n 0, 1) := by decide +kernel
theorem dX5_exchanges_32 : decode cX5_exchanges 32 = .ok (.getfield 48, 3) := by decide +kernel
theorem dX5_exchanges_35 : decode cX5_exchanges 35 = .ok (.bipush 26, 2) := by decide +kernel
theorem dX5_exchanges_37 : decode cX5_exchanges 37 = .ok (.iload_n 2, 1) := by decide +kernel
theorem dX5_exchanges_38 : decode cX5_exchanges 38 = .ok (.imul, 1) := by decide +kernel
theorem dX5_exchanges_39 : decode cX5_exchanges 39 = .ok (.iload_n 3, 1) := by decide +kernel
theorem dX5_exchanges_40 : decode cX5_exchanges 40 = .ok (.iadd, 1) := by decide +kernel
theorem dX5_exchanges_41 : decode cX5_exchanges 41 = .ok (.laload, 1) := by decide +kernel
theorem dX5_exchanges_42 : decode cX5_exchanges 42 = .ok (.lastore, 1) := by decide +kernel
theorem dX5_exchanges_43 : decode cX5_exchanges 43 = .ok (.aload_n 0, 1) := by decide +kernel
theorem dX5_exchanges_44 : decode cX5_exchanges 44 = .ok (.getfield 48, 3) := by decide +kernel
theorem dX5_exchanges_47 : decode cX5_exchanges 47 = .ok (.bipush 26, 2) := by decide +kernel
theorem dX5_exchanges_49 : decode cX5_exchanges 49 = .ok (.iload_n 2, 1) := by decide +kernel
theorem dX5_exchanges_50 : decode cX5_exchanges 50 = .ok (.imul, 1) := by decide +kernel
theorem dX5_exchanges_51 : decode cX5_exchanges 51 = .ok (.iload_n 3, 1) := by decide +kernel
theorem dX5_exchanges_52 : decode cX5_exchanges 52 = .ok (.iadd, 1) := by decide +kernel
theorem dX5_exchanges_53 : decode cX5_exchanges 53 = .ok (.lload 4, 2) := by decide +kernel
theorem dX5_exchanges_55 : decode cX5_exchanges 55 = .ok (.lastore, 1) := by decide +kernel
theorem dX5_exchanges_56 : decode cX5_exchanges 56 = .ok (.iinc 3 1, 3) := by decide +kernel
theorem dX5_exchanges_59 : decode cX5_exchanges 59 = .ok (.goto (-57), 3) := by decide +kernel
theorem dX5_exchanges_62 : decode cX5_exchanges 62 = .ok (.return_, 1) := by decide +kernel
set_option maxRecDepth 20000 in
theorem ggX5_clears_X5_shortens : GoodIn wsX5_clears wsX5_shortens := goodIn_r _ [6, 1, 7, 8, 5, 9, 10, 11, 12, 13, 14, 15, 16, 17, 18, 19, 20, 21, 22, 23, 24, 25, 26, 27, 28, 29] (by decide +kernel) (by decide +kernel)
set_option maxRecDepth 20000 in
theorem gX5_clears_X5_shortens : GoodIn wsX5_clears (wsV RX5 120 RX5 yX5_shortens wsX5_shortens) := goodIn_app (goodIn_of _ (by decide +kernel)) ggX5_clears_X5_shortens
theorem dX5_clears_0 : decode cX5_clears 0 = .ok (.aload_n 0, 1) := by decide +kernel
theorem dX5_clears_1 : decode cX5_clears 1 = .ok (.getfield 48, 3) := by decide +kernel
theorem dX5_clears_4 : decode cX5_clears 4 = .ok (.bipush 26, 2) := by decide +kernel
theorem dX5_clears_6 : decode cX5_clears 6 = .ok (.iload_n 1, 1) := by decide +kernel
theorem dX5_clears_7 : decode cX5_clears 7 = .ok (.imul, 1) := by decide +kernel
theorem dX5_clears_8 : decode cX5_clears 8 = .ok (.iload_n 2, 1) := by decide +kernel
theorem dX5_clears_9 : decode cX5_clears 9 = .ok (.iadd, 1) := by decide +kernel
theorem dX5_clears_10 : decode cX5_clears 10 = .ok (.laload, 1) := by decide +kernel
theorem dX5_clears_11 : decode cX5_clears 11 = .ok (.lstore 4, 2) := by decide +kernel
theorem dX5_clears_13 : decode cX5_clears 13 = .ok (.aload_n 0, 1) := by decide +kernel
theorem dX5_clears_14 : decode cX5_clears 14 = .ok (.getfield 48, 3) := by decide +kernel
theorem dX5_clears_17 : decode cX5_clears 17 = .ok (.bipush 26, 2) := by decide +kernel
theorem dX5_clears_19 : decode cX5_clears 19 = .ok (.iload_n 3, 1) := by decide +kernel
theorem dX5_clears_20 : decode cX5_clears 20 = .ok (.imul, 1) := by decide +kernel
theorem dX5_clears_21 : decode cX5_clears 21 = .ok (.iload_n 2, 1) := by decide +kernel
theorem dX5_clears_22 : decode cX5_clears 22 = .ok (.iadd, 1) := by decide +kernel
theorem dX5_clears_23 : decode cX5_clears 23 = .ok (.laload, 1) := by decide +kernel
theorem dX5_clears_24 : decode cX5_clears 24 = .ok (.lstore 6, 2) := by decide +kernel
theorem dX5_clears_26 : decode cX5_clears 26 = .ok (.iconst 0, 1) := by decide +kernel
theorem dX5_clears_27 : decode cX5_clears 27 = .ok (.istore 8, 2) := by decide +kernel
theorem dX5_clears_29 : decode cX5_clears 29 = .ok (.iload 8, 2) := by decide +kernel
theorem dX5_clears_31 : decode cX5_clears 31 = .ok (.bipush 26, 2) := by decide +kernel
theorem dX5_clears_33 : decode cX5_clears 33 = .ok (.if_icmp .ge 59, 3) := by decide +kernel
theorem dX5_clears_36 : decode cX5_clears 36 = .ok (.lload 6, 2) := by decide +kernel
theorem dX5_clears_38 : decode cX5_clears 38 = .ok (.lconst 0, 1) := by decide +kernel
theorem dX5_clears_39 : decode cX5_clears 39 = .ok (.lcmp, 1) := by decide +kernel
theorem dX5_clears_40 : decode cX5_clears 40 = .ok (.ifCond .eq 52, 3) := by decide +kernel
theorem dX5_clears_43 : decode cX5_clears 43 = .ok (.aload_n 0, 1) := by decide +kernel
theorem dX5_clears_44 : decode cX5_clears 44 = .ok (.getfield 48, 3) := by decide +kernel
theorem dX5_clears_47 : decode cX5_clears 47 = .ok (.bipush 26, 2) := by decide +kernel
theorem dX5_clears_49 : decode cX5_clears 49 = .ok (.iload_n 3, 1) := by decide +kernel
theorem dX5_clears_50 : decode cX5_clears 50 = .ok (.imul, 1) := by decide +kernel
theorem dX5_clears_51 : decode cX5_clears 51 = .ok (.iload 8, 2) := by decide +kernel
theorem dX5_clears_53 : decode cX5_clears 53 = .ok (.iadd, 1) := by decide +kernel
theorem dX5_clears_54 : decode cX5_clears 54 = .ok (.aload_n 0, 1) := by decide +kernel
theorem dX5_clears_55 : decode cX5_clears 55 = .ok (.getfield 48, 3) := by decide +kernel
theorem dX5_clears_58 : decode cX5_clears 58 = .ok (.bipush 26, 2) := by decide +kernel
theorem dX5_clears_60 : decode cX5_clears 60 = .ok (.iload_n 3, 1) := by decide +kernel
theorem dX5_clears_61 : decode cX5_clears 61 = .ok (.imul, 1) := by decide +kernel
theorem dX5_clears_62 : decode cX5_clears 62 = .ok (.iload 8, 2) := by decide +kernel
theorem dX5_clears_64 : decode cX5_clears 64 = .ok (.iadd, 1) := by decide +kernel
theorem dX5_clears_65 : decode cX5_clears 65 = .ok (.laload, 1) := by decide +kernel
theorem dX5_clears_66 : decode cX5_clears 66 = .ok (.lload 4, 2) := by decide +kernel
theorem dX5_clears_68 : decode cX5_clears 68 = .ok (.lmul, 1) := by decide +kernel
theorem dX5_clears_69 : decode cX5_clears 69 = .ok (.aload_n 0, 1) := by decide +kernel
theorem dX5_clears_70 : decode cX5_clears 70 = .ok (.getfield 48, 3) := by decide +kernel
theorem dX5_clears_73 : decode cX5_clears 73 = .ok (.bipush 26, 2) := by decide +kernel
theorem dX5_clears_75 : decode cX5_clears 75 = .ok (.iload_n 1, 1) := by decide +kernel
theorem dX5_clears_76 : decode cX5_clears 76 = .ok (.imul, 1) := by decide +kernel
theorem dX5_clears_77 : decode cX5_clears 77 = .ok (.iload 8, 2) := by decide +kernel
theorem dX5_clears_79 : decode cX5_clears 79 = .ok (.iadd, 1) := by decide +kernel
theorem dX5_clears_80 : decode cX5_clears 80 = .ok (.laload, 1) := by decide +kernel
theorem dX5_clears_81 : decode cX5_clears 81 = .ok (.lload 6, 2) := by decide +kernel
theorem dX5_clears_83 : decode cX5_clears 83 = .ok (.lmul, 1) := by decide +kernel
theorem dX5_clears_84 : decode cX5_clears 84 = .ok (.lsub, 1) := by decide +kernel
theorem dX5_clears_85 : decode cX5_clears 85 = .ok (.lastore, 1) := by decide +kernel
theorem dX5_clears_86 : decode cX5_clears 86 = .ok (.iinc 8 1, 3) := by decide +kernel
theorem dX5_clears_89 : decode cX5_clears 89 = .ok (.goto (-60), 3) := by decide +kernel
theorem dX5_clears_92 : decode cX5_clears 92 = .ok (.aload_n 0, 1) := by decide +kernel
theorem dX5_clears_93 : decode cX5_clears 93 = .ok (.iload_n 3, 1) := by decide +kernel
theorem dX5_clears_94 : decode cX5_clears 94 = .ok (.invokevirtual 120, 3) := by decide +kernel
theorem dX5_clears_97 : decode cX5_clears 97 = .ok (.return_, 1) := by decide +kernel
set_option maxRecDepth 20000 in
theorem ggX5_reduces_X5_laysOut : GoodIn wsX5_reduces wsX5_laysOut := goodIn_r _ [9, 10, 4, 11, 2, 12, 3, 13, 14, 15, 16, 8, 17, 18, 19, 20, 21, 22, 38, 39, 40, 41, 42, 43, 44, 45, 46, 47, 48, 49, 50, 51, 52, 53, 54, 55, 56, 57] (by decide +kernel) (by decide +kernel)
set_option maxRecDepth 20000 in
theorem gX5_reduces_X5_laysOut : GoodIn wsX5_reduces (wsV RX5 124 RX5 yX5_laysOut wsX5_laysOut) := goodIn_app (goodIn_of _ (by decide +kernel)) ggX5_reduces_X5_laysOut
set_option maxRecDepth 20000 in
theorem ggX5_reduces_X5_exchanges : GoodIn wsX5_reduces wsX5_exchanges := goodIn_r _ [26, 3, 38, 39, 40, 41, 42, 43, 44, 45, 46, 47, 48, 49, 50, 51, 52, 53, 54, 55, 56, 57] (by decide +kernel) (by decide +kernel)
set_option maxRecDepth 20000 in
theorem gX5_reduces_X5_exchanges : GoodIn wsX5_reduces (wsV RX5 130 RX5 yX5_exchanges wsX5_exchanges) := goodIn_app (goodIn_of _ (by decide +kernel)) ggX5_reduces_X5_exchanges
set_option maxRecDepth 20000 in
theorem ggX5_reduces_X5_clears : GoodIn wsX5_reduces wsX5_clears := goodIn_r _ [30, 3, 31, 32, 33, 8, 34, 35, 36, 37, 38, 39, 40, 41, 42, 43, 44, 45, 46, 47, 48, 49, 50, 51, 52, 53, 54, 55, 56, 57] (by decide +kernel) (by decide +kernel)
set_option maxRecDepth 20000 in
theorem gX5_reduces_X5_clears : GoodIn wsX5_reduces (wsV RX5 134 RX5 yX5_clears wsX5_clears) := goodIn_app (goodIn_of _ (by decide +kernel)) ggX5_reduces_X5_clears
theorem dX5_reduces_0 : decode cX5_reduces 0 = .ok (.aload_n 0, 1) := by decide +kernel
theorem dX5_reduces_1 : decode cX5_reduces 1 = .ok (.iload_n 1, 1) := by decide +kernel
theorem dX5_reduces_2 : decode cX5_reduces 2 = .ok (.invokevirtual 124, 3) := by decide +kernel
theorem dX5_reduces_5 : decode cX5_reduces 5 = .ok (.aload_n 0, 1) := by decide +kernel
theorem dX5_reduces_6 : decode cX5_reduces 6 = .ok (.iconst 0, 1) := by decide +kernel
theorem dX5_reduces_7 : decode cX5_reduces 7 = .ok (.putfield 127, 3) := by decide +kernel
theorem dX5_reduces_10 : decode cX5_reduces 10 = .ok (.iconst 0, 1) := by decide +kernel
theorem dX5_reduces_11 : decode cX5_reduces 11 = .ok (.istore_n 2, 1) := by decide +kernel
theorem dX5_reduces_12 : decode cX5_reduces 12 = .ok (.iload_n 2, 1) := by decide +kernel
theorem dX5_reduces_13 : decode cX5_reduces 13 = .ok (.bipush 25, 2) := by decide +kernel
theorem dX5_reduces_15 : decode cX5_reduces 15 = .ok (.if_icmp .ge 122, 3) := by decide +kernel
theorem dX5_reduces_18 : decode cX5_reduces 18 = .ok (.aload_n 0, 1) := by decide +kernel
theorem dX5_reduces_19 : decode cX5_reduces 19 = .ok (.getfield 127, 3) := by decide +kernel
theorem dX5_reduces_22 : decode cX5_reduces 22 = .ok (.istore_n 3, 1) := by decide +kernel
theorem dX5_reduces_23 : decode cX5_reduces 23 = .ok (.iload_n 3, 1) := by decide +kernel
theorem dX5_reduces_24 : decode cX5_reduces 24 = .ok (.aload_n 0, 1) := by decide +kernel
theorem dX5_reduces_25 : decode cX5_reduces 25 = .ok (.getfield 68, 3) := by decide +kernel
theorem dX5_reduces_28 : decode cX5_reduces 28 = .ok (.if_icmp .ge 25, 3) := by decide +kernel
theorem dX5_reduces_31 : decode cX5_reduces 31 = .ok (.aload_n 0, 1) := by decide +kernel
theorem dX5_reduces_32 : decode cX5_reduces 32 = .ok (.getfield 48, 3) := by decide +kernel
theorem dX5_reduces_35 : decode cX5_reduces 35 = .ok (.bipush 26, 2) := by decide +kernel
theorem dX5_reduces_37 : decode cX5_reduces 37 = .ok (.iload_n 3, 1) := by decide +kernel
theorem dX5_reduces_38 : decode cX5_reduces 38 = .ok (.imul, 1) := by decide +kernel
theorem dX5_reduces_39 : decode cX5_reduces 39 = .ok (.iload_n 2, 1) := by decide +kernel
theorem dX5_reduces_40 : decode cX5_reduces 40 = .ok (.iadd, 1) := by decide +kernel
theorem dX5_reduces_41 : decode cX5_reduces 41 = .ok (.laload, 1) := by decide +kernel
theorem dX5_reduces_42 : decode cX5_reduces 42 = .ok (.lconst 0, 1) := by decide +kernel
theorem dX5_reduces_43 : decode cX5_reduces 43 = .ok (.lcmp, 1) := by decide +kernel
theorem dX5_reduces_44 : decode cX5_reduces 44 = .ok (.ifCond .ne 9, 3) := by decide +kernel
theorem dX5_reduces_47 : decode cX5_reduces 47 = .ok (.iinc 3 1, 3) := by decide +kernel
theorem dX5_reduces_50 : decode cX5_reduces 50 = .ok (.goto (-27), 3) := by decide +kernel
theorem dX5_reduces_53 : decode cX5_reduces 53 = .ok (.iload_n 3, 1) := by decide +kernel
theorem dX5_reduces_54 : decode cX5_reduces 54 = .ok (.aload_n 0, 1) := by decide +kernel
theorem dX5_reduces_55 : decode cX5_reduces 55 = .ok (.getfield 68, 3) := by decide +kernel
theorem dX5_reduces_58 : decode cX5_reduces 58 = .ok (.if_icmp .ne 6, 3) := by decide +kernel
theorem dX5_reduces_61 : decode cX5_reduces 61 = .ok (.goto 70, 3) := by decide +kernel
theorem dX5_reduces_64 : decode cX5_reduces 64 = .ok (.aload_n 0, 1) := by decide +kernel
theorem dX5_reduces_65 : decode cX5_reduces 65 = .ok (.aload_n 0, 1) := by decide +kernel
theorem dX5_reduces_66 : decode cX5_reduces 66 = .ok (.getfield 127, 3) := by decide +kernel
theorem dX5_reduces_69 : decode cX5_reduces 69 = .ok (.iload_n 3, 1) := by decide +kernel
theorem dX5_reduces_70 : decode cX5_reduces 70 = .ok (.invokevirtual 130, 3) := by decide +kernel
theorem dX5_reduces_73 : decode cX5_reduces 73 = .ok (.iconst 0, 1) := by decide +kernel
theorem dX5_reduces_74 : decode cX5_reduces 74 = .ok (.istore 4, 2) := by decide +kernel
theorem dX5_reduces_76 : decode cX5_reduces 76 = .ok (.iload 4, 2) := by decide +kernel
theorem dX5_reduces_78 : decode cX5_reduces 78 = .ok (.aload_n 0, 1) := by decide +kernel
theorem dX5_reduces_79 : decode cX5_reduces 79 = .ok (.getfield 68, 3) := by decide +kernel
theorem dX5_reduces_82 : decode cX5_reduces 82 = .ok (.if_icmp .ge 29, 3) := by decide +kernel
theorem dX5_reduces_85 : decode cX5_reduces 85 = .ok (.iload 4, 2) := by decide +kernel
theorem dX5_reduces_87 : decode cX5_reduces 87 = .ok (.aload_n 0, 1) := by decide +kernel
theorem dX5_reduces_88 : decode cX5_reduces 88 = .ok (.getfield 127, 3) := by decide +kernel
theorem dX5_reduces_91 : decode cX5_reduces 91 = .ok (.if_icmp .eq 14, 3) := by decide +kernel
theorem dX5_reduces_94 : decode cX5_reduces 94 = .ok (.aload_n 0, 1) := by decide +kernel
theorem dX5_reduces_95 : decode cX5_reduces 95 = .ok (.aload_n 0, 1) := by decide +kernel
theorem dX5_reduces_96 : decode cX5_reduces 96 = .ok (.getfield 127, 3) := by decide +kernel
theorem dX5_reduces_99 : decode cX5_reduces 99 = .ok (.iload_n 2, 1) := by decide +kernel
theorem dX5_reduces_100 : decode cX5_reduces 100 = .ok (.iload 4, 2) := by decide +kernel
theorem dX5_reduces_102 : decode cX5_reduces 102 = .ok (.invokevirtual 134, 3) := by decide +kernel
theorem dX5_reduces_105 : decode cX5_reduces 105 = .ok (.iinc 4 1, 3) := by decide +kernel
theorem dX5_reduces_108 : decode cX5_reduces 108 = .ok (.goto (-32), 3) := by decide +kernel
theorem dX5_reduces_111 : decode cX5_reduces 111 = .ok (.aload_n 0, 1) := by decide +kernel
theorem dX5_reduces_112 : decode cX5_reduces 112 = .ok (.getfield 51, 3) := by decide +kernel
theorem dX5_reduces_115 : decode cX5_reduces 115 = .ok (.iload_n 2, 1) := by decide +kernel
theorem dX5_reduces_116 : decode cX5_reduces 116 = .ok (.aload_n 0, 1) := by decide +kernel
theorem dX5_reduces_117 : decode cX5_reduces 117 = .ok (.getfield 127, 3) := by decide +kernel
theorem dX5_reduces_120 : decode cX5_reduces 120 = .ok (.iastore, 1) := by decide +kernel
theorem dX5_reduces_121 : decode cX5_reduces 121 = .ok (.aload_n 0, 1) := by decide +kernel
theorem dX5_reduces_122 : decode cX5_reduces 122 = .ok (.dup, 1) := by decide +kernel
theorem dX5_reduces_123 : decode cX5_reduces 123 = .ok (.getfield 127, 3) := by decide +kernel
theorem dX5_reduces_126 : decode cX5_reduces 126 = .ok (.iconst 1, 1) := by decide +kernel
theorem dX5_reduces_127 : decode cX5_reduces 127 = .ok (.iadd, 1) := by decide +kernel
theorem dX5_reduces_128 : decode cX5_reduces 128 = .ok (.putfield 127, 3) := by decide +kernel
theorem dX5_reduces_131 : decode cX5_reduces 131 = .ok (.iinc 2 1, 3) := by decide +kernel
theorem dX5_reduces_134 : decode cX5_reduces 134 = .ok (.goto (-122), 3) := by decide +kernel
theorem dX5_reduces_137 : decode cX5_reduces 137 = .ok (.return_, 1) := by decide +kernel
theorem dX5_agrees_0 : decode cX5_agrees 0 = .ok (.aload_n 0, 1) := by decide +kernel
theorem dX5_agrees_1 : decode cX5_agrees 1 = .ok (.getfield 127, 3) := by decide +kernel
theorem dX5_agrees_4 : decode cX5_agrees 4 = .ok (.istore_n 1, 1) := by decide +kernel
theorem dX5_agrees_5 : decode cX5_agrees 5 = .ok (.iload_n 1, 1) := by decide +kernel
theorem dX5_agrees_6 : decode cX5_agrees 6 = .ok (.aload_n 0, 1) := by decide +kernel
theorem dX5_agrees_7 : decode cX5_agrees 7 = .ok (.getfield 68, 3) := by decide +kernel
theorem dX5_agrees_10 : decode cX5_agrees 10 = .ok (.if_icmp .ge 28, 3) := by decide +kernel
theorem dX5_agrees_13 : decode cX5_agrees 13 = .ok (.aload_n 0, 1) := by decide +kernel
theorem dX5_agrees_14 : decode cX5_agrees 14 = .ok (.getfield 48, 3) := by decide +kernel
theorem dX5_agrees_17 : decode cX5_agrees 17 = .ok (.bipush 26, 2) := by decide +kernel
theorem dX5_agrees_19 : decode cX5_agrees 19 = .ok (.iload_n 1, 1) := by decide +kernel
theorem dX5_agrees_20 : decode cX5_agrees 20 = .ok (.imul, 1) := by decide +kernel
theorem dX5_agrees_21 : decode cX5_agrees 21 = .ok (.bipush 25, 2) := by decide +kernel
theorem dX5_agrees_23 : decode cX5_agrees 23 = .ok (.iadd, 1) := by decide +kernel
theorem dX5_agrees_24 : decode cX5_agrees 24 = .ok (.laload, 1) := by decide +kernel
theorem dX5_agrees_25 : decode cX5_agrees 25 = .ok (.lconst 0, 1) := by decide +kernel
theorem dX5_agrees_26 : decode cX5_agrees 26 = .ok (.lcmp, 1) := by decide +kernel
theorem dX5_agrees_27 : decode cX5_agrees 27 = .ok (.ifCond .eq 5, 3) := by decide +kernel
theorem dX5_agrees_30 : decode cX5_agrees 30 = .ok (.iconst 0, 1) := by decide +kernel
theorem dX5_agrees_31 : decode cX5_agrees 31 = .ok (.ireturn, 1) := by decide +kernel
theorem dX5_agrees_32 : decode cX5_agrees 32 = .ok (.iinc 1 1, 3) := by decide +kernel
theorem dX5_agrees_35 : decode cX5_agrees 35 = .ok (.goto (-30), 3) := by decide +kernel
theorem dX5_agrees_38 : decode cX5_agrees 38 = .ok (.iconst 1, 1) := by decide +kernel
theorem dX5_agrees_39 : decode cX5_agrees 39 = .ok (.ireturn, 1) := by decide +kernel
set_option maxRecDepth 20000 in
theorem ggX5_isSure_X5_hasRoute : GoodIn wsX5_isSure wsX5_hasRoute := goodIn_r _ [8, 9, 10, 11, 12, 13, 14, 15, 16, 17, 18, 19, 20, 21, 22, 23, 24, 25, 26, 27, 28, 29] (by decide +kernel) (by decide +kernel)
set_option maxRecDepth 20000 in
theorem gX5_isSure_X5_hasRoute : GoodIn wsX5_isSure (wsV RX5 99 RX5 yX5_hasRoute wsX5_hasRoute) := goodIn_app (goodIn_of _ (by decide +kernel)) ggX5_isSure_X5_hasRoute
theorem dX5_isSure_0 : decode cX5_isSure 0 = .ok (.aload_n 0, 1) := by decide +kernel
theorem dX5_isSure_1 : decode cX5_isSure 1 = .ok (.iload_n 1, 1) := by decide +kernel
theorem dX5_isSure_2 : decode cX5_isSure 2 = .ok (.invokevirtual 99, 3) := by decide +kernel
theorem dX5_isSure_5 : decode cX5_isSure 5 = .ok (.ifCond .ne 5, 3) := by decide +kernel
theorem dX5_isSure_8 : decode cX5_isSure 8 = .ok (.iconst 0, 1) := by decide +kernel
theorem dX5_isSure_9 : decode cX5_isSure 9 = .ok (.ireturn, 1) := by decide +kernel
theorem dX5_isSure_10 : decode cX5_isSure 10 = .ok (.aload_n 0, 1) := by decide +kernel
theorem dX5_isSure_11 : decode cX5_isSure 11 = .ok (.getfield 31, 3) := by decide +kernel
theorem dX5_isSure_14 : decode cX5_isSure 14 = .ok (.iload_n 1, 1) := by decide +kernel
theorem dX5_isSure_15 : decode cX5_isSure 15 = .ok (.baload, 1) := by decide +kernel
theorem dX5_isSure_16 : decode cX5_isSure 16 = .ok (.ifCond .ne 8, 3) := by decide +kernel
theorem dX5_isSure_19 : decode cX5_isSure 19 = .ok (.iload_n 1, 1) := by decide +kernel
theorem dX5_isSure_20 : decode cX5_isSure 20 = .ok (.iload_n 2, 1) := by decide +kernel
theorem dX5_isSure_21 : decode cX5_isSure 21 = .ok (.if_icmp .ne 5, 3) := by decide +kernel
theorem dX5_isSure_24 : decode cX5_isSure 24 = .ok (.iconst 1, 1) := by decide +kernel
theorem dX5_isSure_25 : decode cX5_isSure 25 = .ok (.ireturn, 1) := by decide +kernel
theorem dX5_isSure_26 : decode cX5_isSure 26 = .ok (.aload_n 0, 1) := by decide +kernel
theorem dX5_isSure_27 : decode cX5_isSure 27 = .ok (.getfield 51, 3) := by decide +kernel
theorem dX5_isSure_30 : decode cX5_isSure 30 = .ok (.iload_n 1, 1) := by decide +kernel
theorem dX5_isSure_31 : decode cX5_isSure 31 = .ok (.iaload, 1) := by decide +kernel
theorem dX5_isSure_32 : decode cX5_isSure 32 = .ok (.istore_n 3, 1) := by decide +kernel
theorem dX5_isSure_33 : decode cX5_isSure 33 = .ok (.iload_n 3, 1) := by decide +kernel
theorem dX5_isSure_34 : decode cX5_isSure 34 = .ok (.bipush (-7), 2) := by decide +kernel
theorem dX5_isSure_36 : decode cX5_isSure 36 = .ok (.if_icmp .ne 5, 3) := by decide +kernel
theorem dX5_isSure_39 : decode cX5_isSure 39 = .ok (.iconst 0, 1) := by decide +kernel
theorem dX5_isSure_40 : decode cX5_isSure 40 = .ok (.ireturn, 1) := by decide +kernel
theorem dX5_isSure_41 : decode cX5_isSure 41 = .ok (.iconst 0, 1) := by decide +kernel
theorem dX5_isSure_42 : decode cX5_isSure 42 = .ok (.istore 4, 2) := by decide +kernel
theorem dX5_isSure_44 : decode cX5_isSure 44 = .ok (.iload 4, 2) := by decide +kernel
theorem dX5_isSure_46 : decode cX5_isSure 46 = .ok (.bipush 25, 2) := by decide +kernel
theorem dX5_isSure_48 : decode cX5_isSure 48 = .ok (.if_icmp .ge 34, 3) := by decide +kernel
theorem dX5_isSure_51 : decode cX5_isSure 51 = .ok (.iload 4, 2) := by decide +kernel
theorem dX5_isSure_53 : decode cX5_isSure 53 = .ok (.iload_n 1, 1) := by decide +kernel
theorem dX5_isSure_54 : decode cX5_isSure 54 = .ok (.if_icmp .eq 22, 3) := by decide +kernel
theorem dX5_isSure_57 : decode cX5_isSure 57 = .ok (.aload_n 0, 1) := by decide +kernel
theorem dX5_isSure_58 : decode cX5_isSure 58 = .ok (.getfield 48, 3) := by decide +kernel
theorem dX5_isSure_61 : decode cX5_isSure 61 = .ok (.bipush 26, 2) := by decide +kernel
theorem dX5_isSure_63 : decode cX5_isSure 63 = .ok (.iload_n 3, 1) := by decide +kernel
theorem dX5_isSure_64 : decode cX5_isSure 64 = .ok (.imul, 1) := by decide +kernel
theorem dX5_isSure_65 : decode cX5_isSure 65 = .ok (.iload 4, 2) := by decide +kernel
theorem dX5_isSure_67 : decode cX5_isSure 67 = .ok (.iadd, 1) := by decide +kernel
theorem dX5_isSure_68 : decode cX5_isSure 68 = .ok (.laload, 1) := by decide +kernel
theorem dX5_isSure_69 : decode cX5_isSure 69 = .ok (.lconst 0, 1) := by decide +kernel
theorem dX5_isSure_70 : decode cX5_isSure 70 = .ok (.lcmp, 1) := by decide +kernel
theorem dX5_isSure_71 : decode cX5_isSure 71 = .ok (.ifCond .eq 5, 3) := by decide +kernel
theorem dX5_isSure_74 : decode cX5_isSure 74 = .ok (.iconst 0, 1) := by decide +kernel
theorem dX5_isSure_75 : decode cX5_isSure 75 = .ok (.ireturn, 1) := by decide +kernel
theorem dX5_isSure_76 : decode cX5_isSure 76 = .ok (.iinc 4 1, 3) := by decide +kernel
theorem dX5_isSure_79 : decode cX5_isSure 79 = .ok (.goto (-35), 3) := by decide +kernel
theorem dX5_isSure_82 : decode cX5_isSure 82 = .ok (.iconst 1, 1) := by decide +kernel
theorem dX5_isSure_83 : decode cX5_isSure 83 = .ok (.ireturn, 1) := by decide +kernel
set_option maxRecDepth 20000 in
theorem ggX5_sureCount_X5_reduces : GoodIn wsX5_sureCount wsX5_reduces := goodIn_r _ [5, 6, 7, 8, 9, 10, 11, 12, 4, 13, 14, 15, 16, 17, 18, 19, 20, 21, 22, 23, 24, 25, 26, 27, 28, 29, 30, 31, 32, 33, 34, 35, 36, 37, 38, 39, 40, 41, 46, 47, 48, 49, 50, 51, 52, 53, 54, 55, 56, 57, 58, 59, 60, 61, 62, 63, 64, 65] (by decide +kernel) (by decide +kernel)
set_option maxRecDepth 20000 in
theorem gX5_sureCount_X5_reduces : GoodIn wsX5_sureCount (wsV RX5 138 RX5 yX5_reduces wsX5_reduces) := goodIn_app (goodIn_of _ (by decide +kernel)) ggX5_sureCount_X5_reduces
set_option maxRecDepth 20000 in
theorem ggX5_sureCount_X5_isSure : GoodIn wsX5_sureCount wsX5_isSure := goodIn_r _ [45, 15, 9, 8, 18, 19, 20, 4, 21, 22, 46, 47, 48, 49, 50, 51, 52, 53, 54, 55, 56, 57, 58, 59, 60, 61, 62, 63, 64, 65] (by decide +kernel) (by decide +kernel)
set_option maxRecDepth 20000 in
theorem gX5_sureCount_X5_isSure : GoodIn wsX5_sureCount (wsV RX5 141 RX5 yX5_isSure wsX5_isSure) := goodIn_app (goodIn_of _ (by decide +kernel)) ggX5_sureCount_X5_isSure
theorem dX5_sureCount_0 : decode cX5_sureCount 0 = .ok (.aload_n 0, 1) := by decide +kernel
theorem dX5_sureCount_1 : decode cX5_sureCount 1 = .ok (.iload_n 1, 1) := by decide +kernel
theorem dX5_sureCount_2 : decode cX5_sureCount 2 = .ok (.invokevirtual 138, 3) := by decide +kernel
theorem dX5_sureCount_5 : decode cX5_sureCount 5 = .ok (.iconst 0, 1) := by decide +kernel
theorem dX5_sureCount_6 : decode cX5_sureCount 6 = .ok (.istore_n 2, 1) := by decide +kernel
theorem dX5_sureCount_7 : decode cX5_sureCount 7 = .ok (.iconst 0, 1) := by decide +kernel
theorem dX5_sureCount_8 : decode cX5_sureCount 8 = .ok (.istore_n 3, 1) := by decide +kernel
theorem dX5_sureCount_9 : decode cX5_sureCount 9 = .ok (.iload_n 3, 1) := by decide +kernel
theorem dX5_sureCount_10 : decode cX5_sureCount 10 = .ok (.bipush 25, 2) := by decide +kernel
theorem dX5_sureCount_12 : decode cX5_sureCount 12 = .ok (.if_icmp .ge 26, 3) := by decide +kernel
theorem dX5_sureCount_15 : decode cX5_sureCount 15 = .ok (.iload_n 2, 1) := by decide +kernel
theorem dX5_sureCount_16 : decode cX5_sureCount 16 = .ok (.aload_n 0, 1) := by decide +kernel
theorem dX5_sureCount_17 : decode cX5_sureCount 17 = .ok (.iload_n 3, 1) := by decide +kernel
theorem dX5_sureCount_18 : decode cX5_sureCount 18 = .ok (.iload_n 1, 1) := by decide +kernel
theorem dX5_sureCount_19 : decode cX5_sureCount 19 = .ok (.invokevirtual 141, 3) := by decide +kernel
theorem dX5_sureCount_22 : decode cX5_sureCount 22 = .ok (.ifCond .eq 7, 3) := by decide +kernel
theorem dX5_sureCount_25 : decode cX5_sureCount 25 = .ok (.iconst 1, 1) := by decide +kernel
theorem dX5_sureCount_26 : decode cX5_sureCount 26 = .ok (.goto 4, 3) := by decide +kernel
theorem dX5_sureCount_29 : decode cX5_sureCount 29 = .ok (.iconst 0, 1) := by decide +kernel
theorem dX5_sureCount_30 : decode cX5_sureCount 30 = .ok (.iadd, 1) := by decide +kernel
theorem dX5_sureCount_31 : decode cX5_sureCount 31 = .ok (.istore_n 2, 1) := by decide +kernel
theorem dX5_sureCount_32 : decode cX5_sureCount 32 = .ok (.iinc 3 1, 3) := by decide +kernel
theorem dX5_sureCount_35 : decode cX5_sureCount 35 = .ok (.goto (-26), 3) := by decide +kernel
theorem dX5_sureCount_38 : decode cX5_sureCount 38 = .ok (.iload_n 2, 1) := by decide +kernel
theorem dX5_sureCount_39 : decode cX5_sureCount 39 = .ok (.ireturn, 1) := by decide +kernel
set_option maxRecDepth 20000 in
theorem ggX5_rank_X5_findRoutes : GoodIn wsX5_rank wsX5_findRoutes := goodIn_r _ [7, 8, 9, 10, 11, 12, 13, 14, 15, 16, 17, 6, 18, 19, 20, 21, 22, 23, 24, 25, 26, 27, 28, 29, 30, 31, 68, 69, 70, 71, 72, 73, 74, 75, 76, 77, 78, 79, 80, 81, 82, 83, 84, 85, 86, 87] (by decide +kernel) (by decide +kernel)
set_option maxRecDepth 20000 in
theorem gX5_rank_X5_findRoutes : GoodIn wsX5_rank (wsV RX5 96 RX5 yX5_findRoutes wsX5_findRoutes) := goodIn_app (goodIn_of _ (by decide +kernel)) ggX5_rank_X5_findRoutes
set_option maxRecDepth 20000 in
theorem ggX5_rank_X5_reduces : GoodIn wsX5_rank wsX5_reduces := goodIn_r _ [35, 2, 10, 36, 37, 38, 39, 40, 6, 41, 1, 42, 43, 44, 45, 46, 47, 48, 14, 49, 50, 51, 52, 53, 54, 55, 56, 57, 58, 59, 60, 61, 62, 63, 64, 65, 66, 67, 68, 69, 70, 71, 72, 73, 74, 75, 76, 77, 78, 79, 80, 81, 82, 83, 84, 85, 86, 87] (by decide +kernel) (by decide +kernel)
set_option maxRecDepth 20000 in
theorem gX5_rank_X5_reduces : GoodIn wsX5_rank (wsV RX5 138 RX5 yX5_reduces wsX5_reduces) := goodIn_app (goodIn_of _ (by decide +kernel)) ggX5_rank_X5_reduces
theorem dX5_rank_0 : decode cX5_rank 0 = .ok (.aload_n 0, 1) := by decide +kernel
theorem dX5_rank_1 : decode cX5_rank 1 = .ok (.invokevirtual 96, 3) := by decide +kernel
theorem dX5_rank_4 : decode cX5_rank 4 = .ok (.aload_n 0, 1) := by decide +kernel
theorem dX5_rank_5 : decode cX5_rank 5 = .ok (.bipush (-7), 2) := by decide +kernel
theorem dX5_rank_7 : decode cX5_rank 7 = .ok (.invokevirtual 138, 3) := by decide +kernel
theorem dX5_rank_10 : decode cX5_rank 10 = .ok (.aload_n 0, 1) := by decide +kernel
theorem dX5_rank_11 : decode cX5_rank 11 = .ok (.getfield 113, 3) := by decide +kernel
theorem dX5_rank_14 : decode cX5_rank 14 = .ok (.aload_n 0, 1) := by decide +kernel
theorem dX5_rank_15 : decode cX5_rank 15 = .ok (.getfield 127, 3) := by decide +kernel
theorem dX5_rank_18 : decode cX5_rank 18 = .ok (.iadd, 1) := by decide +kernel
theorem dX5_rank_19 : decode cX5_rank 19 = .ok (.ireturn, 1) := by decide +kernel
set_option maxRecDepth 20000 in
theorem ggX5_isConsistent_X5_findRoutes : GoodIn wsX5_isConsistent wsX5_findRoutes := goodIn_r _ [5, 6, 7, 8, 9, 10, 11, 12, 13, 14, 15, 4, 16, 17, 18, 19, 20, 21, 22, 23, 24, 25, 26, 27, 28, 29, 72, 73, 74, 75, 76, 77, 78, 79, 80, 81, 82, 83, 84, 85, 86, 87, 88, 89, 90, 91] (by decide +kernel) (by decide +kernel)
set_option maxRecDepth 20000 in
theorem gX5_isConsistent_X5_findRoutes : GoodIn wsX5_isConsistent (wsV RX5 96 RX5 yX5_findRoutes wsX5_findRoutes) := goodIn_app (goodIn_of _ (by decide +kernel)) ggX5_isConsistent_X5_findRoutes
set_option maxRecDepth 20000 in
theorem ggX5_isConsistent_X5_reduces : GoodIn wsX5_isConsistent wsX5_reduces := goodIn_r _ [33, 34, 8, 35, 36, 37, 38, 39, 4, 40, 41, 42, 43, 44, 45, 46, 47, 48, 12, 49, 50, 51, 52, 53, 54, 55, 56, 57, 58, 59, 60, 61, 62, 63, 64, 65, 66, 67, 72, 73, 74, 75, 76, 77, 78, 79, 80, 81, 82, 83, 84, 85, 86, 87, 88, 89, 90, 91] (by decide +kernel) (by decide +kernel)
set_option maxRecDepth 20000 in
theorem gX5_isConsistent_X5_reduces : GoodIn wsX5_isConsistent (wsV RX5 138 RX5 yX5_reduces wsX5_reduces) := goodIn_app (goodIn_of _ (by decide +kernel)) ggX5_isConsistent_X5_reduces
set_option maxRecDepth 20000 in
theorem ggX5_isConsistent_X5_agrees : GoodIn wsX5_isConsistent wsX5_agrees := goodIn_r _ [71, 34, 8, 35, 72, 73, 74, 75, 76, 77, 78, 79, 80, 81, 82, 83, 84, 85, 86, 87, 88, 89, 90, 91] (by decide +kernel) (by decide +kernel)
set_option maxRecDepth 20000 in
theorem gX5_isConsistent_X5_agrees : GoodIn wsX5_isConsistent (wsV RX5 144 RX5 yX5_agrees wsX5_agrees) := goodIn_app (goodIn_of _ (by decide +kernel)) ggX5_isConsistent_X5_agrees
theorem dX5_isConsistent_0 : decode cX5_isConsistent 0 = .ok (.aload_n 0, 1) := by decide +kernel
theorem dX5_isConsistent_1 : decode cX5_isConsistent 1 = .ok (.invokevirtual 96, 3) := by decide +kernel
theorem dX5_isConsistent_4 : decode cX5_isConsistent 4 = .ok (.aload_n 0, 1) := by decide +kernel
theorem dX5_isConsistent_5 : decode cX5_isConsistent 5 = .ok (.bipush (-7), 2) := by decide +kernel
theorem dX5_isConsistent_7 : decode cX5_isConsistent 7 = .ok (.invokevirtual 138, 3) := by decide +kernel
theorem dX5_isConsistent_10 : decode cX5_isConsistent 10 = .ok (.aload_n 0, 1) := by decide +kernel
theorem dX5_isConsistent_11 : decode cX5_isConsistent 11 = .ok (.invokevirtual 144, 3) := by decide +kernel
theorem dX5_isConsistent_14 : decode cX5_isConsistent 14 = .ok (.ifCond .eq 7, 3) := by decide +kernel
theorem dX5_isConsistent_17 : decode cX5_isConsistent 17 = .ok (.iconst 1, 1) := by decide +kernel
theorem dX5_isConsistent_18 : decode cX5_isConsistent 18 = .ok (.goto 4, 3) := by decide +kernel
theorem dX5_isConsistent_21 : decode cX5_isConsistent 21 = .ok (.iconst 0, 1) := by decide +kernel
theorem dX5_isConsistent_22 : decode cX5_isConsistent 22 = .ok (.ireturn, 1) := by decide +kernel
set_option maxRecDepth 20000 in
theorem ggX5_isIdentifiable_X5_refusedRoute : GoodIn wsX5_isIdentifiable wsX5_refusedRoute := goodIn_r _ [5, 6, 7, 8, 4, 9, 10, 11, 12, 13, 14, 15, 16, 17, 18, 19, 20, 21, 22, 23, 24, 25, 26, 27, 28, 29, 30, 31, 32, 33, 34, 35, 36, 37, 38, 39, 40, 41, 42, 43, 44, 45, 46, 47, 48, 87, 88, 89, 90, 91, 92, 93, 94, 95, 96, 97, 98, 99, 100, 101, 102, 103, 104, 105, 106] (by decide +kernel) (by decide +kernel)
set_option maxRecDepth 20000 in
theorem gX5_isIdentifiable_X5_refusedRoute : GoodIn wsX5_isIdentifiable (wsV RX5 102 RX5 yX5_refusedRoute wsX5_refusedRoute) := goodIn_app (goodIn_of _ (by decide +kernel)) ggX5_isIdentifiable_X5_refusedRoute
set_option maxRecDepth 20000 in
theorem ggX5_isIdentifiable_X5_reduces : GoodIn wsX5_isIdentifiable wsX5_reduces := goodIn_r _ [52, 53, 24, 54, 55, 56, 57, 58, 4, 59, 60, 61, 62, 63, 45, 46, 47, 48, 27, 64, 65, 66, 67, 68, 69, 70, 71, 72, 73, 74, 75, 76, 77, 78, 79, 80, 81, 82, 87, 88, 89, 90, 91, 92, 93, 94, 95, 96, 97, 98, 99, 100, 101, 102, 103, 104, 105, 106] (by decide +kernel) (by decide +kernel)
set_option maxRecDepth 20000 in
theorem gX5_isIdentifiable_X5_reduces : GoodIn wsX5_isIdentifiable (wsV RX5 138 RX5 yX5_reduces wsX5_reduces) := goodIn_app (goodIn_of _ (by decide +kernel)) ggX5_isIdentifiable_X5_reduces
set_option maxRecDepth 20000 in
theorem ggX5_isIdentifiable_X5_isSure : GoodIn wsX5_isIdentifiable wsX5_isSure := goodIn_r _ [86, 61, 55, 54, 45, 46, 47, 4, 48, 27, 87, 88, 89, 90, 91, 92, 93, 94, 95, 96, 97, 98, 99, 100, 101, 102, 103, 104, 105, 106] (by decide +kernel) (by decide +kernel)
set_option maxRecDepth 20000 in
theorem gX5_isIdentifiable_X5_isSure : GoodIn wsX5_isIdentifiable (wsV RX5 141 RX5 yX5_isSure wsX5_isSure) := goodIn_app (goodIn_of _ (by decide +kernel)) ggX5_isIdentifiable_X5_isSure
theorem dX5_isIdentifiable_0 : decode cX5_isIdentifiable 0 = .ok (.aload_n 0, 1) := by decide +kernel
theorem dX5_isIdentifiable_1 : decode cX5_isIdentifiable 1 = .ok (.iload_n 1, 1) := by decide +kernel
theorem dX5_isIdentifiable_2 : decode cX5_isIdentifiable 2 = .ok (.iload_n 2, 1) := by decide +kernel
theorem dX5_isIdentifiable_3 : decode cX5_isIdentifiable 3 = .ok (.invokevirtual 102, 3) := by decide +kernel
theorem dX5_isIdentifiable_6 : decode cX5_isIdentifiable 6 = .ok (.istore_n 3, 1) := by decide +kernel
theorem dX5_isIdentifiable_7 : decode cX5_isIdentifiable 7 = .ok (.iload_n 3, 1) := by decide +kernel
theorem dX5_isIdentifiable_8 : decode cX5_isIdentifiable 8 = .ok (.ifCond .eq 5, 3) := by decide +kernel
theorem dX5_isIdentifiable_11 : decode cX5_isIdentifiable 11 = .ok (.iload_n 3, 1) := by decide +kernel
theorem dX5_isIdentifiable_12 : decode cX5_isIdentifiable 12 = .ok (.ireturn, 1) := by decide +kernel
theorem dX5_isIdentifiable_13 : decode cX5_isIdentifiable 13 = .ok (.aload_n 0, 1) := by decide +kernel
theorem dX5_isIdentifiable_14 : decode cX5_isIdentifiable 14 = .ok (.bipush (-7), 2) := by decide +kernel
theorem dX5_isIdentifiable_16 : decode cX5_isIdentifiable 16 = .ok (.invokevirtual 138, 3) := by decide +kernel
theorem dX5_isIdentifiable_19 : decode cX5_isIdentifiable 19 = .ok (.aload_n 0, 1) := by decide +kernel
theorem dX5_isIdentifiable_20 : decode cX5_isIdentifiable 20 = .ok (.iconst 5, 1) := by decide +kernel
theorem dX5_isIdentifiable_21 : decode cX5_isIdentifiable 21 = .ok (.iload_n 1, 1) := by decide +kernel
theorem dX5_isIdentifiable_22 : decode cX5_isIdentifiable 22 = .ok (.imul, 1) := by decide +kernel
theorem dX5_isIdentifiable_23 : decode cX5_isIdentifiable 23 = .ok (.iload_n 2, 1) := by decide +kernel
theorem dX5_isIdentifiable_24 : decode cX5_isIdentifiable 24 = .ok (.iadd, 1) := by decide +kernel
theorem dX5_isIdentifiable_25 : decode cX5_isIdentifiable 25 = .ok (.bipush (-7), 2) := by decide +kernel
theorem dX5_isIdentifiable_27 : decode cX5_isIdentifiable 27 = .ok (.invokevirtual 141, 3) := by decide +kernel
theorem dX5_isIdentifiable_30 : decode cX5_isIdentifiable 30 = .ok (.ifCond .eq 7, 3) := by decide +kernel
theorem dX5_isIdentifiable_33 : decode cX5_isIdentifiable 33 = .ok (.iconst 1, 1) := by decide +kernel
theorem dX5_isIdentifiable_34 : decode cX5_isIdentifiable 34 = .ok (.goto 4, 3) := by decide +kernel
theorem dX5_isIdentifiable_37 : decode cX5_isIdentifiable 37 = .ok (.iconst 0, 1) := by decide +kernel
theorem dX5_isIdentifiable_38 : decode cX5_isIdentifiable 38 = .ok (.ireturn, 1) := by decide +kernel
set_option maxRecDepth 20000 in
theorem ggX5_identifiableCount_X5_findRoutes : GoodIn wsX5_identifiableCount wsX5_findRoutes := goodIn_r _ [5, 6, 7, 8, 9, 10, 11, 12, 13, 14, 15, 4, 16, 17, 18, 19, 20, 21, 22, 23, 24, 25, 26, 27, 28, 29, 76, 77, 78, 79, 80, 81, 82, 83, 84, 85, 86, 87, 88, 89, 90, 91, 92, 93, 94, 95] (by decide +kernel) (by decide +kernel)
set_option maxRecDepth 20000 in
theorem gX5_identifiableCount_X5_findRoutes : GoodIn wsX5_identifiableCount (wsV RX5 96 RX5 yX5_findRoutes wsX5_findRoutes) := goodIn_app (goodIn_of _ (by decide +kernel)) ggX5_identifiableCount_X5_findRoutes
set_option maxRecDepth 20000 in
theorem ggX5_identifiableCount_X5_sureCount : GoodIn wsX5_identifiableCount wsX5_sureCount := goodIn_r _ [33, 34, 35, 36, 4, 37, 38, 8, 39, 40, 41, 42, 43, 44, 45, 46, 47, 48, 49, 50, 51, 52, 12, 53, 54, 55, 56, 57, 58, 59, 60, 61, 62, 63, 64, 65, 66, 67, 68, 69, 70, 71, 72, 73, 74, 75, 76, 77, 78, 79, 80, 81, 82, 83, 84, 85, 86, 87, 88, 89, 90, 91, 92, 93, 94, 95] (by decide +kernel) (by decide +kernel)
set_option maxRecDepth 20000 in
theorem gX5_identifiableCount_X5_sureCount : GoodIn wsX5_identifiableCount (wsV RX5 148 RX5 yX5_sureCount wsX5_sureCount) := goodIn_app (goodIn_of _ (by decide +kernel)) ggX5_identifiableCount_X5_sureCount
theorem dX5_identifiableCount_0 : decode cX5_identifiableCount 0 = .ok (.aload_n 0, 1) := by decide +kernel
theorem dX5_identifiableCount_1 : decode cX5_identifiableCount 1 = .ok (.invokevirtual 96, 3) := by decide +kernel
theorem dX5_identifiableCount_4 : decode cX5_identifiableCount 4 = .ok (.aload_n 0, 1) := by decide +kernel
theorem dX5_identifiableCount_5 : decode cX5_identifiableCount 5 = .ok (.bipush (-7), 2) := by decide +kernel
theorem dX5_identifiableCount_7 : decode cX5_identifiableCount 7 = .ok (.invokevirtual 148, 3) := by decide +kernel
theorem dX5_identifiableCount_10 : decode cX5_identifiableCount 10 = .ok (.ireturn, 1) := by decide +kernel
set_option maxRecDepth 20000 in
theorem ggX5_identified_X5_refusedRoute : GoodIn wsX5_identified wsX5_refusedRoute := goodIn_r _ [11, 12, 13, 14, 10, 15, 16, 17, 18, 19, 20, 21, 22, 23, 24, 25, 26, 27, 28, 29, 30, 31, 32, 33, 34, 35, 36, 37, 38, 39, 40, 41, 42, 43, 44, 45, 46, 47, 48, 49, 50, 51, 52, 53, 54, 93, 94, 95, 96, 97, 98, 99, 100, 101, 102, 103, 104, 105, 106, 107, 108, 109, 110, 111, 112] (by decide +kernel) (by decide +kernel)
set_option maxRecDepth 20000 in
theorem gX5_identified_X5_refusedRoute : GoodIn wsX5_identified (wsV RX5 102 RX5 yX5_refusedRoute wsX5_refusedRoute) := goodIn_app (goodIn_of _ (by decide +kernel)) ggX5_identified_X5_refusedRoute
set_option maxRecDepth 20000 in
theorem ggX5_identified_X5_reduces : GoodIn wsX5_identified wsX5_reduces := goodIn_r _ [58, 59, 30, 4, 5, 60, 61, 62, 10, 63, 64, 2, 65, 3, 51, 52, 53, 54, 33, 66, 67, 68, 69, 70, 71, 72, 73, 74, 75, 76, 77, 78, 79, 80, 81, 82, 83, 84, 93, 94, 95, 96, 97, 98, 99, 100, 101, 102, 103, 104, 105, 106, 107, 108, 109, 110, 111, 112] (by decide +kernel) (by decide +kernel)
set_option maxRecDepth 20000 in
theorem gX5_identified_X5_reduces : GoodIn wsX5_identified (wsV RX5 138 RX5 yX5_reduces wsX5_reduces) := goodIn_app (goodIn_of _ (by decide +kernel)) ggX5_identified_X5_reduces
set_option maxRecDepth 20000 in
theorem ggX5_identified_X5_isSure : GoodIn wsX5_identified wsX5_isSure := goodIn_r _ [88, 2, 5, 4, 51, 52, 53, 10, 54, 33, 93, 94, 95, 96, 97, 98, 99, 100, 101, 102, 103, 104, 105, 106, 107, 108, 109, 110, 111, 112] (by decide +kernel) (by decide +kernel)
set_option maxRecDepth 20000 in
theorem gX5_identified_X5_isSure : GoodIn wsX5_identified (wsV RX5 141 RX5 yX5_isSure wsX5_isSure) := goodIn_app (goodIn_of _ (by decide +kernel)) ggX5_identified_X5_isSure
set_option maxRecDepth 20000 in
theorem ggX5_identified_X5_agrees : GoodIn wsX5_identified wsX5_agrees := goodIn_r _ [92, 59, 30, 4, 93, 94, 95, 96, 97, 98, 99, 100, 101, 102, 103, 104, 105, 106, 107, 108, 109, 110, 111, 112] (by decide +kernel) (by decide +kernel)
set_option maxRecDepth 20000 in
theorem gX5_identified_X5_agrees : GoodIn wsX5_identified (wsV RX5 144 RX5 yX5_agrees wsX5_agrees) := goodIn_app (goodIn_of _ (by decide +kernel)) ggX5_identified_X5_agrees
set_option maxRecDepth 20000 in
theorem ggX5_identified_X5_common : GoodIn wsX5_identified wsX5_common := goodIn_r _ [84] (by decide +kernel) (by decide +kernel)
set_option maxRecDepth 20000 in
theorem gX5_identified_X5_common : GoodIn wsX5_identified (va_wsS RX5 116 yX5_common wsX5_common) := goodIn_app (goodIn_of _ (by decide +kernel)) ggX5_identified_X5_common
theorem dX5_identified_0 : decode cX5_identified 0 = .ok (.aload_n 0, 1) := by decide +kernel
theorem dX5_identified_1 : decode cX5_identified 1 = .ok (.iload_n 1, 1) := by decide +kernel
theorem dX5_identified_2 : decode cX5_identified 2 = .ok (.iload_n 2, 1) := by decide +kernel
theorem dX5_identified_3 : decode cX5_identified 3 = .ok (.invokevirtual 102, 3) := by decide +kernel
theorem dX5_identified_6 : decode cX5_identified 6 = .ok (.ifCond .eq 7, 3) := by decide +kernel
theorem dX5_identified_9 : decode cX5_identified 9 = .ok (.ldc2_w 151, 3) := by decide +kernel
theorem dX5_identified_12 : decode cX5_identified 12 = .ok (.lreturn, 1) := by decide +kernel
theorem dX5_identified_13 : decode cX5_identified 13 = .ok (.iconst 5, 1) := by decide +kernel
theorem dX5_identified_14 : decode cX5_identified 14 = .ok (.iload_n 1, 1) := by decide +kernel
theorem dX5_identified_15 : decode cX5_identified 15 = .ok (.imul, 1) := by decide +kernel
theorem dX5_identified_16 : decode cX5_identified 16 = .ok (.iload_n 2, 1) := by decide +kernel
theorem dX5_identified_17 : decode cX5_identified 17 = .ok (.iadd, 1) := by decide +kernel
theorem dX5_identified_18 : decode cX5_identified 18 = .ok (.istore 4, 2) := by decide +kernel
theorem dX5_identified_20 : decode cX5_identified 20 = .ok (.aload_n 0, 1) := by decide +kernel
theorem dX5_identified_21 : decode cX5_identified 21 = .ok (.bipush (-7), 2) := by decide +kernel
theorem dX5_identified_23 : decode cX5_identified 23 = .ok (.invokevirtual 138, 3) := by decide +kernel
theorem dX5_identified_26 : decode cX5_identified 26 = .ok (.aload_n 0, 1) := by decide +kernel
theorem dX5_identified_27 : decode cX5_identified 27 = .ok (.iload 4, 2) := by decide +kernel
theorem dX5_identified_29 : decode cX5_identified 29 = .ok (.bipush (-7), 2) := by decide +kernel
theorem dX5_identified_31 : decode cX5_identified 31 = .ok (.invokevirtual 141, 3) := by decide +kernel
theorem dX5_identified_34 : decode cX5_identified 34 = .ok (.ifCond .eq 10, 3) := by decide +kernel
theorem dX5_identified_37 : decode cX5_identified 37 = .ok (.aload_n 0, 1) := by decide +kernel
theorem dX5_identified_38 : decode cX5_identified 38 = .ok (.invokevirtual 144, 3) := by decide +kernel
theorem dX5_identified_41 : decode cX5_identified 41 = .ok (.ifCond .ne 7, 3) := by decide +kernel
theorem dX5_identified_44 : decode cX5_identified 44 = .ok (.ldc2_w 151, 3) := by decide +kernel
theorem dX5_identified_47 : decode cX5_identified 47 = .ok (.lreturn, 1) := by decide +kernel
theorem dX5_identified_48 : decode cX5_identified 48 = .ok (.aload_n 0, 1) := by decide +kernel
theorem dX5_identified_49 : decode cX5_identified 49 = .ok (.getfield 31, 3) := by decide +kernel
theorem dX5_identified_52 : decode cX5_identified 52 = .ok (.iload 4, 2) := by decide +kernel
theorem dX5_identified_54 : decode cX5_identified 54 = .ok (.baload, 1) := by decide +kernel
theorem dX5_identified_55 : decode cX5_identified 55 = .ok (.ifCond .eq 20, 3) := by decide +kernel
theorem dX5_identified_58 : decode cX5_identified 58 = .ok (.iload_n 3, 1) := by decide +kernel
theorem dX5_identified_59 : decode cX5_identified 59 = .ok (.ifCond .ne 14, 3) := by decide +kernel
theorem dX5_identified_62 : decode cX5_identified 62 = .ok (.aload_n 0, 1) := by decide +kernel
theorem dX5_identified_63 : decode cX5_identified 63 = .ok (.getfield 35, 3) := by decide +kernel
theorem dX5_identified_66 : decode cX5_identified 66 = .ok (.iload 4, 2) := by decide +kernel
theorem dX5_identified_68 : decode cX5_identified 68 = .ok (.iaload, 1) := by decide +kernel
theorem dX5_identified_69 : decode cX5_identified 69 = .ok (.i2l, 1) := by decide +kernel
theorem dX5_identified_70 : decode cX5_identified 70 = .ok (.goto 4, 3) := by decide +kernel
theorem dX5_identified_73 : decode cX5_identified 73 = .ok (.lconst 1, 1) := by decide +kernel
theorem dX5_identified_74 : decode cX5_identified 74 = .ok (.lreturn, 1) := by decide +kernel
theorem dX5_identified_75 : decode cX5_identified 75 = .ok (.aload_n 0, 1) := by decide +kernel
theorem dX5_identified_76 : decode cX5_identified 76 = .ok (.getfield 48, 3) := by decide +kernel
theorem dX5_identified_79 : decode cX5_identified 79 = .ok (.bipush 26, 2) := by decide +kernel
theorem dX5_identified_81 : decode cX5_identified 81 = .ok (.aload_n 0, 1) := by decide +kernel
theorem dX5_identified_82 : decode cX5_identified 82 = .ok (.getfield 51, 3) := by decide +kernel
theorem dX5_identified_85 : decode cX5_identified 85 = .ok (.iload 4, 2) := by decide +kernel
theorem dX5_identified_87 : decode cX5_identified 87 = .ok (.iaload, 1) := by decide +kernel
theorem dX5_identified_88 : decode cX5_identified 88 = .ok (.imul, 1) := by decide +kernel
theorem dX5_identified_89 : decode cX5_identified 89 = .ok (.iload 4, 2) := by decide +kernel
theorem dX5_identified_91 : decode cX5_identified 91 = .ok (.iadd, 1) := by decide +kernel
theorem dX5_identified_92 : decode cX5_identified 92 = .ok (.laload, 1) := by decide +kernel
theorem dX5_identified_93 : decode cX5_identified 93 = .ok (.lstore 5, 2) := by decide +kernel
theorem dX5_identified_95 : decode cX5_identified 95 = .ok (.aload_n 0, 1) := by decide +kernel
theorem dX5_identified_96 : decode cX5_identified 96 = .ok (.getfield 48, 3) := by decide +kernel
theorem dX5_identified_99 : decode cX5_identified 99 = .ok (.bipush 26, 2) := by decide +kernel
theorem dX5_identified_101 : decode cX5_identified 101 = .ok (.aload_n 0, 1) := by decide +kernel
theorem dX5_identified_102 : decode cX5_identified 102 = .ok (.getfield 51, 3) := by decide +kernel
theorem dX5_identified_105 : decode cX5_identified 105 = .ok (.iload 4, 2) := by decide +kernel
theorem dX5_identified_107 : decode cX5_identified 107 = .ok (.iaload, 1) := by decide +kernel
theorem dX5_identified_108 : decode cX5_identified 108 = .ok (.imul, 1) := by decide +kernel
theorem dX5_identified_109 : decode cX5_identified 109 = .ok (.bipush 25, 2) := by decide +kernel
theorem dX5_identified_111 : decode cX5_identified 111 = .ok (.iadd, 1) := by decide +kernel
theorem dX5_identified_112 : decode cX5_identified 112 = .ok (.laload, 1) := by decide +kernel
theorem dX5_identified_113 : decode cX5_identified 113 = .ok (.lstore 7, 2) := by decide +kernel
theorem dX5_identified_115 : decode cX5_identified 115 = .ok (.lload 5, 2) := by decide +kernel
theorem dX5_identified_117 : decode cX5_identified 117 = .ok (.lload 7, 2) := by decide +kernel
theorem dX5_identified_119 : decode cX5_identified 119 = .ok (.invokestatic 116, 3) := by decide +kernel
theorem dX5_identified_122 : decode cX5_identified 122 = .ok (.lstore 9, 2) := by decide +kernel
theorem dX5_identified_124 : decode cX5_identified 124 = .ok (.lload 5, 2) := by decide +kernel
theorem dX5_identified_126 : decode cX5_identified 126 = .ok (.lconst 0, 1) := by decide +kernel
theorem dX5_identified_127 : decode cX5_identified 127 = .ok (.lcmp, 1) := by decide +kernel
theorem dX5_identified_128 : decode cX5_identified 128 = .ok (.ifCond .ge 9, 3) := by decide +kernel
theorem dX5_identified_131 : decode cX5_identified 131 = .ok (.ldc2_w 153, 3) := by decide +kernel
theorem dX5_identified_134 : decode cX5_identified 134 = .ok (.goto 4, 3) := by decide +kernel
theorem dX5_identified_137 : decode cX5_identified 137 = .ok (.lconst 1, 1) := by decide +kernel
theorem dX5_identified_138 : decode cX5_identified 138 = .ok (.lstore 11, 2) := by decide +kernel
theorem dX5_identified_140 : decode cX5_identified 140 = .ok (.lload 11, 2) := by decide +kernel
theorem dX5_identified_142 : decode cX5_identified 142 = .ok (.iload_n 3, 1) := by decide +kernel
theorem dX5_identified_143 : decode cX5_identified 143 = .ok (.ifCond .ne 8, 3) := by decide +kernel
theorem dX5_identified_146 : decode cX5_identified 146 = .ok (.lload 7, 2) := by decide +kernel
theorem dX5_identified_148 : decode cX5_identified 148 = .ok (.goto 5, 3) := by decide +kernel
theorem dX5_identified_151 : decode cX5_identified 151 = .ok (.lload 5, 2) := by decide +kernel
theorem dX5_identified_153 : decode cX5_identified 153 = .ok (.lmul, 1) := by decide +kernel
theorem dX5_identified_154 : decode cX5_identified 154 = .ok (.lload 9, 2) := by decide +kernel
theorem dX5_identified_156 : decode cX5_identified 156 = .ok (.ldiv, 1) := by decide +kernel
theorem dX5_identified_157 : decode cX5_identified 157 = .ok (.lreturn, 1) := by decide +kernel
set_option maxRecDepth 20000 in
theorem ggX5_identifiedNumerator_X5_identified : GoodIn wsX5_identifiedNumerator wsX5_identified := goodIn_r _ [5, 6, 7, 8, 9, 10, 11, 12, 13, 14, 4, 15, 16, 17, 18, 19, 20, 21, 22, 23, 24, 25, 26, 27, 28, 29, 30, 31, 32, 33, 34, 35, 36, 37, 38, 39, 40, 41, 42, 43, 44, 45, 46, 47, 48, 49, 50, 51, 52, 53, 54, 55, 56, 57, 58, 59, 60, 61, 62, 63, 64, 65, 66, 67, 68, 69, 70, 71, 72, 73, 74, 75, 76, 77, 78, 79, 80, 81, 82, 83, 84, 85, 86, 87, 88, 89, 90, 91, 92, 93, 94, 95, 96, 97, 98, 99, 100, 101, 102, 103, 104, 105, 106, 107, 108, 109, 110, 111, 112, 113, 114, 115, 116] (by decide +kernel) (by decide +kernel)
set_option maxRecDepth 20000 in
theorem gX5_identifiedNumerator_X5_identified : GoodIn wsX5_identifiedNumerator (wsV RX5 155 RX5 yX5_identified wsX5_identified) := goodIn_app (goodIn_of _ (by decide +kernel)) ggX5_identifiedNumerator_X5_identified
theorem dX5_identifiedNumerator_0 : decode cX5_identifiedNumerator 0 = .ok (.aload_n 0, 1) := by decide +kernel
theorem dX5_identifiedNumerator_1 : decode cX5_identifiedNumerator 1 = .ok (.iload_n 1, 1) := by decide +kernel
theorem dX5_identifiedNumerator_2 : decode cX5_identifiedNumerator 2 = .ok (.iload_n 2, 1) := by decide +kernel
theorem dX5_identifiedNumerator_3 : decode cX5_identifiedNumerator 3 = .ok (.iconst 0, 1) := by decide +kernel
theorem dX5_identifiedNumerator_4 : decode cX5_identifiedNumerator 4 = .ok (.invokevirtual 155, 3) := by decide +kernel
theorem dX5_identifiedNumerator_7 : decode cX5_identifiedNumerator 7 = .ok (.lreturn, 1) := by decide +kernel
set_option maxRecDepth 20000 in
theorem ggX5_identifiedDenominator_X5_identified : GoodIn wsX5_identifiedDenominator wsX5_identified := goodIn_r _ [5, 6, 7, 8, 9, 10, 11, 12, 13, 14, 4, 15, 16, 17, 18, 19, 20, 21, 22, 23, 24, 25, 26, 27, 28, 29, 30, 31, 32, 33, 34, 35, 36, 37, 38, 39, 40, 41, 42, 43, 44, 45, 46, 47, 48, 49, 50, 51, 52, 53, 54, 55, 56, 57, 58, 59, 60, 61, 62, 63, 64, 65, 66, 67, 68, 69, 70, 71, 72, 73, 74, 75, 76, 77, 78, 79, 80, 81, 82, 83, 84, 85, 86, 87, 88, 89, 90, 91, 92, 93, 94, 95, 96, 97, 98, 99, 100, 101, 102, 103, 104, 105, 106, 107, 108, 109, 110, 111, 112, 113, 114, 115, 116] (by decide +kernel) (by decide +kernel)
set_option maxRecDepth 20000 in
theorem gX5_identifiedDenominator_X5_identified : GoodIn wsX5_identifiedDenominator (wsV RX5 155 RX5 yX5_identified wsX5_identified) := goodIn_app (goodIn_of _ (by decide +kernel)) ggX5_identifiedDenominator_X5_identified
theorem dX5_identifiedDenominator_0 : decode cX5_identifiedDenominator 0 = .ok (.aload_n 0, 1) := by decide +kernel
theorem dX5_identifiedDenominator_1 : decode cX5_identifiedDenominator 1 = .ok (.iload_n 1, 1) := by decide +kernel
theorem dX5_identifiedDenominator_2 : decode cX5_identifiedDenominator 2 = .ok (.iload_n 2, 1) := by decide +kernel
theorem dX5_identifiedDenominator_3 : decode cX5_identifiedDenominator 3 = .ok (.iconst 1, 1) := by decide +kernel
theorem dX5_identifiedDenominator_4 : decode cX5_identifiedDenominator 4 = .ok (.invokevirtual 155, 3) := by decide +kernel
theorem dX5_identifiedDenominator_7 : decode cX5_identifiedDenominator 7 = .ok (.lreturn, 1) := by decide +kernel
set_option maxRecDepth 20000 in
theorem ggX5_bestPair_X5_findRoutes : GoodIn wsX5_bestPair wsX5_findRoutes := goodIn_r _ [6, 7, 8, 9, 10, 11, 12, 13, 14, 15, 16, 5, 17, 18, 19, 20, 21, 22, 23, 24, 25, 26, 27, 28, 29, 30, 77, 78, 79, 80, 81, 82, 83, 84, 85, 86, 87, 88, 89, 90, 91, 92, 93, 94, 95, 96] (by decide +kernel) (by decide +kernel)
set_option maxRecDepth 20000 in
theorem gX5_bestPair_X5_findRoutes : GoodIn wsX5_bestPair (wsV RX5 96 RX5 yX5_findRoutes wsX5_findRoutes) := goodIn_app (goodIn_of _ (by decide +kernel)) ggX5_bestPair_X5_findRoutes
set_option maxRecDepth 20000 in
theorem ggX5_bestPair_X5_reduces : GoodIn wsX5_bestPair wsX5_reduces := goodIn_r _ [34, 35, 9, 36, 37, 38, 39, 40, 5, 41, 42, 43, 44, 45, 46, 47, 48, 49, 13, 50, 51, 52, 53, 54, 55, 56, 57, 58, 59, 60, 61, 62, 63, 64, 65, 66, 67, 68, 77, 78, 79, 80, 81, 82, 83, 84, 85, 86, 87, 88, 89, 90, 91, 92, 93, 94, 95, 96] (by decide +kernel) (by decide +kernel)
set_option maxRecDepth 20000 in
theorem gX5_bestPair_X5_reduces : GoodIn wsX5_bestPair (wsV RX5 138 RX5 yX5_reduces wsX5_reduces) := goodIn_app (goodIn_of _ (by decide +kernel)) ggX5_bestPair_X5_reduces
set_option maxRecDepth 20000 in
theorem ggX5_bestPair_X5_isSure : GoodIn wsX5_bestPair wsX5_isSure := goodIn_r _ [72, 43, 37, 36, 46, 47, 48, 5, 49, 13, 77, 78, 79, 80, 81, 82, 83, 84, 85, 86, 87, 88, 89, 90, 91, 92, 93, 94, 95, 96] (by decide +kernel) (by decide +kernel)
set_option maxRecDepth 20000 in
theorem gX5_bestPair_X5_isSure : GoodIn wsX5_bestPair (wsV RX5 141 RX5 yX5_isSure wsX5_isSure) := goodIn_app (goodIn_of _ (by decide +kernel)) ggX5_bestPair_X5_isSure
set_option maxRecDepth 20000 in
theorem ggX5_bestPair_X5_hasRoute : GoodIn wsX5_bestPair wsX5_hasRoute := goodIn_r _ [49, 13, 77, 78, 79, 80, 81, 82, 83, 84, 85, 86, 87, 88, 89, 90, 91, 92, 93, 94, 95, 96] (by decide +kernel) (by decide +kernel)
set_option maxRecDepth 20000 in
theorem gX5_bestPair_X5_hasRoute : GoodIn wsX5_bestPair (wsV RX5 99 RX5 yX5_hasRoute wsX5_hasRoute) := goodIn_app (goodIn_of _ (by decide +kernel)) ggX5_bestPair_X5_hasRoute
set_option maxRecDepth 20000 in
theorem ggX5_bestPair_X5_sureCount : GoodIn wsX5_bestPair wsX5_sureCount := goodIn_r _ [76, 31, 32, 33, 5, 34, 35, 9, 36, 37, 38, 39, 40, 41, 42, 43, 44, 45, 46, 47, 48, 49, 13, 50, 51, 52, 53, 54, 55, 56, 57, 58, 59, 60, 61, 62, 63, 64, 65, 66, 67, 68, 69, 70, 71, 72, 77, 78, 79, 80, 81, 82, 83, 84, 85, 86, 87, 88, 89, 90, 91, 92, 93, 94, 95, 96] (by decide +kernel) (by decide +kernel)
set_option maxRecDepth 20000 in
theorem gX5_bestPair_X5_sureCount : GoodIn wsX5_bestPair (wsV RX5 148 RX5 yX5_sureCount wsX5_sureCount) := goodIn_app (goodIn_of _ (by decide +kernel)) ggX5_bestPair_X5_sureCount
theorem dX5_bestPair_0 : decode cX5_bestPair 0 = .ok (.aload_n 0, 1) := by decide +kernel
theorem dX5_bestPair_1 : decode cX5_bestPair 1 = .ok (.invokevirtual 96, 3) := by decide +kernel
theorem dX5_bestPair_4 : decode cX5_bestPair 4 = .ok (.aload_n 0, 1) := by decide +kernel
theorem dX5_bestPair_5 : decode cX5_bestPair 5 = .ok (.bipush (-7), 2) := by decide +kernel
theorem dX5_bestPair_7 : decode cX5_bestPair 7 = .ok (.invokevirtual 138, 3) := by decide +kernel
theorem dX5_bestPair_10 : decode cX5_bestPair 10 = .ok (.iconst 0, 1) := by decide +kernel
theorem dX5_bestPair_11 : decode cX5_bestPair 11 = .ok (.istore_n 1, 1) := by decide +kernel
theorem dX5_bestPair_12 : decode cX5_bestPair 12 = .ok (.iload_n 1, 1) := by decide +kernel
theorem dX5_bestPair_13 : decode cX5_bestPair 13 = .ok (.bipush 25, 2) := by decide +kernel
theorem dX5_bestPair_15 : decode cX5_bestPair 15 = .ok (.if_icmp .ge 22, 3) := by decide +kernel
theorem dX5_bestPair_18 : decode cX5_bestPair 18 = .ok (.aload_n 0, 1) := by decide +kernel
theorem dX5_bestPair_19 : decode cX5_bestPair 19 = .ok (.getfield 54, 3) := by decide +kernel
theorem dX5_bestPair_22 : decode cX5_bestPair 22 = .ok (.iload_n 1, 1) := by decide +kernel
theorem dX5_bestPair_23 : decode cX5_bestPair 23 = .ok (.aload_n 0, 1) := by decide +kernel
theorem dX5_bestPair_24 : decode cX5_bestPair 24 = .ok (.iload_n 1, 1) := by decide +kernel
theorem dX5_bestPair_25 : decode cX5_bestPair 25 = .ok (.bipush (-7), 2) := by decide +kernel
theorem dX5_bestPair_27 : decode cX5_bestPair 27 = .ok (.invokevirtual 141, 3) := by decide +kernel
theorem dX5_bestPair_30 : decode cX5_bestPair 30 = .ok (.bastore, 1) := by decide +kernel
theorem dX5_bestPair_31 : decode cX5_bestPair 31 = .ok (.iinc 1 1, 3) := by decide +kernel
theorem dX5_bestPair_34 : decode cX5_bestPair 34 = .ok (.goto (-22), 3) := by decide +kernel
theorem dX5_bestPair_37 : decode cX5_bestPair 37 = .ok (.bipush (-7), 2) := by decide +kernel
theorem dX5_bestPair_39 : decode cX5_bestPair 39 = .ok (.istore_n 1, 1) := by decide +kernel
theorem dX5_bestPair_40 : decode cX5_bestPair 40 = .ok (.iconst 0, 1) := by decide +kernel
theorem dX5_bestPair_41 : decode cX5_bestPair 41 = .ok (.istore_n 2, 1) := by decide +kernel
theorem dX5_bestPair_42 : decode cX5_bestPair 42 = .ok (.iconst 0, 1) := by decide +kernel
theorem dX5_bestPair_43 : decode cX5_bestPair 43 = .ok (.istore_n 3, 1) := by decide +kernel
theorem dX5_bestPair_44 : decode cX5_bestPair 44 = .ok (.iload_n 3, 1) := by decide +kernel
theorem dX5_bestPair_45 : decode cX5_bestPair 45 = .ok (.bipush 25, 2) := by decide +kernel
theorem dX5_bestPair_47 : decode cX5_bestPair 47 = .ok (.if_icmp .ge 58, 3) := by decide +kernel
theorem dX5_bestPair_50 : decode cX5_bestPair 50 = .ok (.aload_n 0, 1) := by decide +kernel
theorem dX5_bestPair_51 : decode cX5_bestPair 51 = .ok (.iload_n 3, 1) := by decide +kernel
theorem dX5_bestPair_52 : decode cX5_bestPair 52 = .ok (.invokevirtual 99, 3) := by decide +kernel
theorem dX5_bestPair_55 : decode cX5_bestPair 55 = .ok (.ifCond .eq 44, 3) := by decide +kernel
theorem dX5_bestPair_58 : decode cX5_bestPair 58 = .ok (.aload_n 0, 1) := by decide +kernel
theorem dX5_bestPair_59 : decode cX5_bestPair 59 = .ok (.getfield 54, 3) := by decide +kernel
theorem dX5_bestPair_62 : decode cX5_bestPair 62 = .ok (.iload_n 3, 1) := by decide +kernel
theorem dX5_bestPair_63 : decode cX5_bestPair 63 = .ok (.baload, 1) := by decide +kernel
theorem dX5_bestPair_64 : decode cX5_bestPair 64 = .ok (.ifCond .ne 35, 3) := by decide +kernel
theorem dX5_bestPair_67 : decode cX5_bestPair 67 = .ok (.aload_n 0, 1) := by decide +kernel
theorem dX5_bestPair_68 : decode cX5_bestPair 68 = .ok (.iload_n 3, 1) := by decide +kernel
theorem dX5_bestPair_69 : decode cX5_bestPair 69 = .ok (.invokevirtual 148, 3) := by decide +kernel
theorem dX5_bestPair_72 : decode cX5_bestPair 72 = .ok (.istore 4, 2) := by decide +kernel
theorem dX5_bestPair_74 : decode cX5_bestPair 74 = .ok (.iload 4, 2) := by decide +kernel
theorem dX5_bestPair_76 : decode cX5_bestPair 76 = .ok (.iload_n 2, 1) := by decide +kernel
theorem dX5_bestPair_77 : decode cX5_bestPair 77 = .ok (.if_icmp .le 7, 3) := by decide +kernel
theorem dX5_bestPair_80 : decode cX5_bestPair 80 = .ok (.iload_n 3, 1) := by decide +kernel
theorem dX5_bestPair_81 : decode cX5_bestPair 81 = .ok (.goto 4, 3) := by decide +kernel
theorem dX5_bestPair_84 : decode cX5_bestPair 84 = .ok (.iload_n 1, 1) := by decide +kernel
theorem dX5_bestPair_85 : decode cX5_bestPair 85 = .ok (.istore_n 1, 1) := by decide +kernel
theorem dX5_bestPair_86 : decode cX5_bestPair 86 = .ok (.iload 4, 2) := by decide +kernel
theorem dX5_bestPair_88 : decode cX5_bestPair 88 = .ok (.iload_n 2, 1) := by decide +kernel
theorem dX5_bestPair_89 : decode cX5_bestPair 89 = .ok (.if_icmp .le 8, 3) := by decide +kernel
theorem dX5_bestPair_92 : decode cX5_bestPair 92 = .ok (.iload 4, 2) := by decide +kernel
theorem dX5_bestPair_94 : decode cX5_bestPair 94 = .ok (.goto 4, 3) := by decide +kernel
theorem dX5_bestPair_97 : decode cX5_bestPair 97 = .ok (.iload_n 2, 1) := by decide +kernel
theorem dX5_bestPair_98 : decode cX5_bestPair 98 = .ok (.istore_n 2, 1) := by decide +kernel
theorem dX5_bestPair_99 : decode cX5_bestPair 99 = .ok (.iinc 3 1, 3) := by decide +kernel
theorem dX5_bestPair_102 : decode cX5_bestPair 102 = .ok (.goto (-58), 3) := by decide +kernel
theorem dX5_bestPair_105 : decode cX5_bestPair 105 = .ok (.iload_n 1, 1) := by decide +kernel
theorem dX5_bestPair_106 : decode cX5_bestPair 106 = .ok (.bipush (-7), 2) := by decide +kernel
theorem dX5_bestPair_108 : decode cX5_bestPair 108 = .ok (.if_icmp .ne 8, 3) := by decide +kernel
theorem dX5_bestPair_111 : decode cX5_bestPair 111 = .ok (.bipush (-7), 2) := by decide +kernel
theorem dX5_bestPair_113 : decode cX5_bestPair 113 = .ok (.goto 13, 3) := by decide +kernel
theorem dX5_bestPair_116 : decode cX5_bestPair 116 = .ok (.bipush 10, 2) := by decide +kernel
theorem dX5_bestPair_118 : decode cX5_bestPair 118 = .ok (.iload_n 1, 1) := by decide +kernel
theorem dX5_bestPair_119 : decode cX5_bestPair 119 = .ok (.iconst 5, 1) := by decide +kernel
theorem dX5_bestPair_120 : decode cX5_bestPair 120 = .ok (.idiv, 1) := by decide +kernel
theorem dX5_bestPair_121 : decode cX5_bestPair 121 = .ok (.imul, 1) := by decide +kernel
theorem dX5_bestPair_122 : decode cX5_bestPair 122 = .ok (.iload_n 1, 1) := by decide +kernel
theorem dX5_bestPair_123 : decode cX5_bestPair 123 = .ok (.iconst 5, 1) := by decide +kernel
theorem dX5_bestPair_124 : decode cX5_bestPair 124 = .ok (.irem, 1) := by decide +kernel
theorem dX5_bestPair_125 : decode cX5_bestPair 125 = .ok (.iadd, 1) := by decide +kernel
theorem dX5_bestPair_126 : decode cX5_bestPair 126 = .ok (.ireturn, 1) := by decide +kernel
set_option maxRecDepth 20000 in
theorem ggX5_applyGravity_X5_findRoutes : GoodIn wsX5_applyGravity wsX5_findRoutes := goodIn_r _ [10, 11, 12, 13, 1, 14, 15, 16, 17, 18, 19, 9, 20, 21, 22, 23, 24, 25, 26, 27, 28, 29, 30, 31, 32, 33, 38, 39, 40, 41, 42, 43, 44, 45, 46, 47, 48, 49, 50, 51, 52, 53, 54, 55, 56, 57] (by decide +kernel) (by decide +kernel)
set_option maxRecDepth 20000 in
theorem gX5_applyGravity_X5_findRoutes : GoodIn wsX5_applyGravity (wsV RX5 96 RX5 yX5_findRoutes wsX5_findRoutes) := goodIn_app (goodIn_of _ (by decide +kernel)) ggX5_applyGravity_X5_findRoutes
set_option maxRecDepth 20000 in
theorem ggX5_applyGravity_X5_hasRoute : GoodIn wsX5_applyGravity wsX5_hasRoute := goodIn_r _ [37, 16, 38, 39, 40, 41, 42, 43, 44, 45, 46, 47, 48, 49, 50, 51, 52, 53, 54, 55, 56, 57] (by decide +kernel) (by decide +kernel)
set_option maxRecDepth 20000 in
theorem gX5_applyGravity_X5_hasRoute : GoodIn wsX5_applyGravity (wsV RX5 99 RX5 yX5_hasRoute wsX5_hasRoute) := goodIn_app (goodIn_of _ (by decide +kernel)) ggX5_applyGravity_X5_hasRoute
theorem dX5_applyGravity_0 : decode cX5_applyGravity 0 = .ok (.aload_n 0, 1) := by decide +kernel
theorem dX5_applyGravity_1 : decode cX5_applyGravity 1 = .ok (.invokevirtual 96, 3) := by decide +kernel
theorem dX5_applyGravity_4 : decode cX5_applyGravity 4 = .ok (.lconst 0, 1) := by decide +kernel
theorem dX5_applyGravity_5 : decode cX5_applyGravity 5 = .ok (.lstore_n 1, 1) := by decide +kernel
theorem dX5_applyGravity_6 : decode cX5_applyGravity 6 = .ok (.iconst 0, 1) := by decide +kernel
theorem dX5_applyGravity_7 : decode cX5_applyGravity 7 = .ok (.istore_n 3, 1) := by decide +kernel
theorem dX5_applyGravity_8 : decode cX5_applyGravity 8 = .ok (.iconst 0, 1) := by decide +kernel
theorem dX5_applyGravity_9 : decode cX5_applyGravity 9 = .ok (.istore 4, 2) := by decide +kernel
theorem dX5_applyGravity_11 : decode cX5_applyGravity 11 = .ok (.iload 4, 2) := by decide +kernel
theorem dX5_applyGravity_13 : decode cX5_applyGravity 13 = .ok (.aload_n 0, 1) := by decide +kernel
theorem dX5_applyGravity_14 : decode cX5_applyGravity 14 = .ok (.getfield 60, 3) := by decide +kernel
theorem dX5_applyGravity_17 : decode cX5_applyGravity 17 = .ok (.if_icmp .ge 20, 3) := by decide +kernel
theorem dX5_applyGravity_20 : decode cX5_applyGravity 20 = .ok (.lload_n 1, 1) := by decide +kernel
theorem dX5_applyGravity_21 : decode cX5_applyGravity 21 = .ok (.aload_n 0, 1) := by decide +kernel
theorem dX5_applyGravity_22 : decode cX5_applyGravity 22 = .ok (.getfield 25, 3) := by decide +kernel
theorem dX5_applyGravity_25 : decode cX5_applyGravity 25 = .ok (.iload 4, 2) := by decide +kernel
theorem dX5_applyGravity_27 : decode cX5_applyGravity 27 = .ok (.iaload, 1) := by decide +kernel
theorem dX5_applyGravity_28 : decode cX5_applyGravity 28 = .ok (.i2l, 1) := by decide +kernel
theorem dX5_applyGravity_29 : decode cX5_applyGravity 29 = .ok (.ladd, 1) := by decide +kernel
theorem dX5_applyGravity_30 : decode cX5_applyGravity 30 = .ok (.lstore_n 1, 1) := by decide +kernel
theorem dX5_applyGravity_31 : decode cX5_applyGravity 31 = .ok (.iinc 4 1, 3) := by decide +kernel
theorem dX5_applyGravity_34 : decode cX5_applyGravity 34 = .ok (.goto (-23), 3) := by decide +kernel
theorem dX5_applyGravity_37 : decode cX5_applyGravity 37 = .ok (.iconst 0, 1) := by decide +kernel
theorem dX5_applyGravity_38 : decode cX5_applyGravity 38 = .ok (.istore 4, 2) := by decide +kernel
theorem dX5_applyGravity_40 : decode cX5_applyGravity 40 = .ok (.iload 4, 2) := by decide +kernel
theorem dX5_applyGravity_42 : decode cX5_applyGravity 42 = .ok (.bipush 25, 2) := by decide +kernel
theorem dX5_applyGravity_44 : decode cX5_applyGravity 44 = .ok (.if_icmp .ge 82, 3) := by decide +kernel
theorem dX5_applyGravity_47 : decode cX5_applyGravity 47 = .ok (.aload_n 0, 1) := by decide +kernel
theorem dX5_applyGravity_48 : decode cX5_applyGravity 48 = .ok (.getfield 38, 3) := by decide +kernel
theorem dX5_applyGravity_51 : decode cX5_applyGravity 51 = .ok (.iload 4, 2) := by decide +kernel
theorem dX5_applyGravity_53 : decode cX5_applyGravity 53 = .ok (.aload_n 0, 1) := by decide +kernel
theorem dX5_applyGravity_54 : decode cX5_applyGravity 54 = .ok (.iload 4, 2) := by decide +kernel
theorem dX5_applyGravity_56 : decode cX5_applyGravity 56 = .ok (.invokevirtual 99, 3) := by decide +kernel
theorem dX5_applyGravity_59 : decode cX5_applyGravity 59 = .ok (.ifCond .eq 39, 3) := by decide +kernel
theorem dX5_applyGravity_62 : decode cX5_applyGravity 62 = .ok (.lload_n 1, 1) := by decide +kernel
theorem dX5_applyGravity_63 : decode cX5_applyGravity 63 = .ok (.lconst 0, 1) := by decide +kernel
theorem dX5_applyGravity_64 : decode cX5_applyGravity 64 = .ok (.lcmp, 1) := by decide +kernel
theorem dX5_applyGravity_65 : decode cX5_applyGravity 65 = .ok (.ifCond .le 33, 3) := by decide +kernel
theorem dX5_applyGravity_68 : decode cX5_applyGravity 68 = .ok (.aload_n 0, 1) := by decide +kernel
theorem dX5_applyGravity_69 : decode cX5_applyGravity 69 = .ok (.getfield 25, 3) := by decide +kernel
theorem dX5_applyGravity_72 : decode cX5_applyGravity 72 = .ok (.iload 4, 2) := by decide +kernel
theorem dX5_applyGravity_74 : decode cX5_applyGravity 74 = .ok (.iconst 5, 1) := by decide +kernel
theorem dX5_applyGravity_75 : decode cX5_applyGravity 75 = .ok (.idiv, 1) := by decide +kernel
theorem dX5_applyGravity_76 : decode cX5_applyGravity 76 = .ok (.iaload, 1) := by decide +kernel
theorem dX5_applyGravity_77 : decode cX5_applyGravity 77 = .ok (.i2l, 1) := by decide +kernel
theorem dX5_applyGravity_78 : decode cX5_applyGravity 78 = .ok (.aload_n 0, 1) := by decide +kernel
theorem dX5_applyGravity_79 : decode cX5_applyGravity 79 = .ok (.getfield 28, 3) := by decide +kernel
theorem dX5_applyGravity_82 : decode cX5_applyGravity 82 = .ok (.iload 4, 2) := by decide +kernel
theorem dX5_applyGravity_84 : decode cX5_applyGravity 84 = .ok (.iconst 5, 1) := by decide +kernel
theorem dX5_applyGravity_85 : decode cX5_applyGravity 85 = .ok (.irem, 1) := by decide +kernel
theorem dX5_applyGravity_86 : decode cX5_applyGravity 86 = .ok (.iaload, 1) := by decide +kernel
theorem dX5_applyGravity_87 : decode cX5_applyGravity 87 = .ok (.i2l, 1) := by decide +kernel
theorem dX5_applyGravity_88 : decode cX5_applyGravity 88 = .ok (.lmul, 1) := by decide +kernel
theorem dX5_applyGravity_89 : decode cX5_applyGravity 89 = .ok (.ldc2_w 159, 3) := by decide +kernel
theorem dX5_applyGravity_92 : decode cX5_applyGravity 92 = .ok (.lmul, 1) := by decide +kernel
theorem dX5_applyGravity_93 : decode cX5_applyGravity 93 = .ok (.lload_n 1, 1) := by decide +kernel
theorem dX5_applyGravity_94 : decode cX5_applyGravity 94 = .ok (.ldiv, 1) := by decide +kernel
theorem dX5_applyGravity_95 : decode cX5_applyGravity 95 = .ok (.goto 4, 3) := by decide +kernel
theorem dX5_applyGravity_98 : decode cX5_applyGravity 98 = .ok (.lconst 0, 1) := by decide +kernel
theorem dX5_applyGravity_99 : decode cX5_applyGravity 99 = .ok (.lastore, 1) := by decide +kernel
theorem dX5_applyGravity_100 : decode cX5_applyGravity 100 = .ok (.iload_n 3, 1) := by decide +kernel
theorem dX5_applyGravity_101 : decode cX5_applyGravity 101 = .ok (.aload_n 0, 1) := by decide +kernel
theorem dX5_applyGravity_102 : decode cX5_applyGravity 102 = .ok (.getfield 38, 3) := by decide +kernel
theorem dX5_applyGravity_105 : decode cX5_applyGravity 105 = .ok (.iload 4, 2) := by decide +kernel
theorem dX5_applyGravity_107 : decode cX5_applyGravity 107 = .ok (.laload, 1) := by decide +kernel
theorem dX5_applyGravity_108 : decode cX5_applyGravity 108 = .ok (.lconst 0, 1) := by decide +kernel
theorem dX5_applyGravity_109 : decode cX5_applyGravity 109 = .ok (.lcmp, 1) := by decide +kernel
theorem dX5_applyGravity_110 : decode cX5_applyGravity 110 = .ok (.ifCond .le 7, 3) := by decide +kernel
theorem dX5_applyGravity_113 : decode cX5_applyGravity 113 = .ok (.iconst 1, 1) := by decide +kernel
theorem dX5_applyGravity_114 : decode cX5_applyGravity 114 = .ok (.goto 4, 3) := by decide +kernel
theorem dX5_applyGravity_117 : decode cX5_applyGravity 117 = .ok (.iconst 0, 1) := by decide +kernel
theorem dX5_applyGravity_118 : decode cX5_applyGravity 118 = .ok (.iadd, 1) := by decide +kernel
theorem dX5_applyGravity_119 : decode cX5_applyGravity 119 = .ok (.istore_n 3, 1) := by decide +kernel
theorem dX5_applyGravity_120 : decode cX5_applyGravity 120 = .ok (.iinc 4 1, 3) := by decide +kernel
theorem dX5_applyGravity_123 : decode cX5_applyGravity 123 = .ok (.goto (-83), 3) := by decide +kernel
theorem dX5_applyGravity_126 : decode cX5_applyGravity 126 = .ok (.iload_n 3, 1) := by decide +kernel
theorem dX5_applyGravity_127 : decode cX5_applyGravity 127 = .ok (.ireturn, 1) := by decide +kernel
set_option maxRecDepth 20000 in
theorem ggX5_keeps_X5_findRoutes : GoodIn wsX5_keeps wsX5_findRoutes := goodIn_r _ [7, 8, 9, 10, 11, 12, 13, 14, 15, 16, 17, 6, 18, 19, 20, 21, 22, 23, 24, 25, 26, 27, 28, 29, 30, 31, 36, 37, 38, 39, 40, 41, 42, 43, 44, 45, 46, 47, 48, 49, 50, 51, 52, 53, 54, 55] (by decide +kernel) (by decide +kernel)
set_option maxRecDepth 20000 in
theorem gX5_keeps_X5_findRoutes : GoodIn wsX5_keeps (wsV RX5 96 RX5 yX5_findRoutes wsX5_findRoutes) := goodIn_app (goodIn_of _ (by decide +kernel)) ggX5_keeps_X5_findRoutes
set_option maxRecDepth 20000 in
theorem ggX5_keeps_X5_hasRoute : GoodIn wsX5_keeps wsX5_hasRoute := goodIn_r _ [35, 14, 36, 37, 38, 39, 40, 41, 42, 43, 44, 45, 46, 47, 48, 49, 50, 51, 52, 53, 54, 55] (by decide +kernel) (by decide +kernel)
set_option maxRecDepth 20000 in
theorem gX5_keeps_X5_hasRoute : GoodIn wsX5_keeps (wsV RX5 99 RX5 yX5_hasRoute wsX5_hasRoute) := goodIn_app (goodIn_of _ (by decide +kernel)) ggX5_keeps_X5_hasRoute
theorem dX5_keeps_0 : decode cX5_keeps 0 = .ok (.aload_n 0, 1) := by decide +kernel
theorem dX5_keeps_1 : decode cX5_keeps 1 = .ok (.invokevirtual 96, 3) := by decide +kernel
theorem dX5_keeps_4 : decode cX5_keeps 4 = .ok (.iconst 0, 1) := by decide +kernel
theorem dX5_keeps_5 : decode cX5_keeps 5 = .ok (.istore_n 1, 1) := by decide +kernel
theorem dX5_keeps_6 : decode cX5_keeps 6 = .ok (.iload_n 1, 1) := by decide +kernel
theorem dX5_keeps_7 : decode cX5_keeps 7 = .ok (.bipush 25, 2) := by decide +kernel
theorem dX5_keeps_9 : decode cX5_keeps 9 = .ok (.if_icmp .ge 45, 3) := by decide +kernel
theorem dX5_keeps_12 : decode cX5_keeps 12 = .ok (.aload_n 0, 1) := by decide +kernel
theorem dX5_keeps_13 : decode cX5_keeps 13 = .ok (.getfield 57, 3) := by decide +kernel
theorem dX5_keeps_16 : decode cX5_keeps 16 = .ok (.iload_n 1, 1) := by decide +kernel
theorem dX5_keeps_17 : decode cX5_keeps 17 = .ok (.aload_n 0, 1) := by decide +kernel
theorem dX5_keeps_18 : decode cX5_keeps 18 = .ok (.getfield 38, 3) := by decide +kernel
theorem dX5_keeps_21 : decode cX5_keeps 21 = .ok (.iload_n 1, 1) := by decide +kernel
theorem dX5_keeps_22 : decode cX5_keeps 22 = .ok (.laload, 1) := by decide +kernel
theorem dX5_keeps_23 : decode cX5_keeps 23 = .ok (.lastore, 1) := by decide +kernel
theorem dX5_keeps_24 : decode cX5_keeps 24 = .ok (.aload_n 0, 1) := by decide +kernel
theorem dX5_keeps_25 : decode cX5_keeps 25 = .ok (.getfield 38, 3) := by decide +kernel
theorem dX5_keeps_28 : decode cX5_keeps 28 = .ok (.iload_n 1, 1) := by decide +kernel
theorem dX5_keeps_29 : decode cX5_keeps 29 = .ok (.aload_n 0, 1) := by decide +kernel
theorem dX5_keeps_30 : decode cX5_keeps 30 = .ok (.iload_n 1, 1) := by decide +kernel
theorem dX5_keeps_31 : decode cX5_keeps 31 = .ok (.invokevirtual 99, 3) := by decide +kernel
theorem dX5_keeps_34 : decode cX5_keeps 34 = .ok (.ifCond .eq 12, 3) := by decide +kernel
theorem dX5_keeps_37 : decode cX5_keeps 37 = .ok (.aload_n 0, 1) := by decide +kernel
theorem dX5_keeps_38 : decode cX5_keeps 38 = .ok (.getfield 38, 3) := by decide +kernel
theorem dX5_keeps_41 : decode cX5_keeps 41 = .ok (.iload_n 1, 1) := by decide +kernel
theorem dX5_keeps_42 : decode cX5_keeps 42 = .ok (.laload, 1) := by decide +kernel
theorem dX5_keeps_43 : decode cX5_keeps 43 = .ok (.goto 4, 3) := by decide +kernel
theorem dX5_keeps_46 : decode cX5_keeps 46 = .ok (.lconst 0, 1) := by decide +kernel
theorem dX5_keeps_47 : decode cX5_keeps 47 = .ok (.lastore, 1) := by decide +kernel
theorem dX5_keeps_48 : decode cX5_keeps 48 = .ok (.iinc 1 1, 3) := by decide +kernel
theorem dX5_keeps_51 : decode cX5_keeps 51 = .ok (.goto (-45), 3) := by decide +kernel
theorem dX5_keeps_54 : decode cX5_keeps 54 = .ok (.return_, 1) := by decide +kernel
theorem dX5_changed_0 : decode cX5_changed 0 = .ok (.iconst 0, 1) := by decide +kernel
theorem dX5_changed_1 : decode cX5_changed 1 = .ok (.istore_n 1, 1) := by decide +kernel
theorem dX5_changed_2 : decode cX5_changed 2 = .ok (.iconst 0, 1) := by decide +kernel
theorem dX5_changed_3 : decode cX5_changed 3 = .ok (.istore_n 2, 1) := by decide +kernel
theorem dX5_changed_4 : decode cX5_changed 4 = .ok (.iload_n 2, 1) := by decide +kernel
theorem dX5_changed_5 : decode cX5_changed 5 = .ok (.bipush 25, 2) := by decide +kernel
theorem dX5_changed_7 : decode cX5_changed 7 = .ok (.if_icmp .ge 33, 3) := by decide +kernel
theorem dX5_changed_10 : decode cX5_changed 10 = .ok (.iload_n 1, 1) := by decide +kernel
theorem dX5_changed_11 : decode cX5_changed 11 = .ok (.aload_n 0, 1) := by decide +kernel
theorem dX5_changed_12 : decode cX5_changed 12 = .ok (.getfield 38, 3) := by decide +kernel
theorem dX5_changed_15 : decode cX5_changed 15 = .ok (.iload_n 2, 1) := by decide +kernel
theorem dX5_changed_16 : decode cX5_changed 16 = .ok (.laload, 1) := by decide +kernel
theorem dX5_changed_17 : decode cX5_changed 17 = .ok (.aload_n 0, 1) := by decide +kernel
theorem dX5_changed_18 : decode cX5_changed 18 = .ok (.getfield 57, 3) := by decide +kernel
theorem dX5_changed_21 : decode cX5_changed 21 = .ok (.iload_n 2, 1) := by decide +kernel
theorem dX5_changed_22 : decode cX5_changed 22 = .ok (.laload, 1) := by decide +kernel
theorem dX5_changed_23 : decode cX5_changed 23 = .ok (.lcmp, 1) := by decide +kernel
theorem dX5_changed_24 : decode cX5_changed 24 = .ok (.ifCond .ne 7, 3) := by decide +kernel
theorem dX5_changed_27 : decode cX5_changed 27 = .ok (.iconst 0, 1) := by decide +kernel
theorem dX5_changed_28 : decode cX5_changed 28 = .ok (.goto 4, 3) := by decide +kernel
theorem dX5_changed_31 : decode cX5_changed 31 = .ok (.iconst 1, 1) := by decide +kernel
theorem dX5_changed_32 : decode cX5_changed 32 = .ok (.iadd, 1) := by decide +kernel
theorem dX5_changed_33 : decode cX5_changed 33 = .ok (.istore_n 1, 1) := by decide +kernel
theorem dX5_changed_34 : decode cX5_changed 34 = .ok (.iinc 2 1, 3) := by decide +kernel
theorem dX5_changed_37 : decode cX5_changed 37 = .ok (.goto (-33), 3) := by decide +kernel
theorem dX5_changed_40 : decode cX5_changed 40 = .ok (.iload_n 1, 1) := by decide +kernel
theorem dX5_changed_41 : decode cX5_changed 41 = .ok (.ireturn, 1) := by decide +kernel
set_option maxRecDepth 20000 in
theorem ggX5_isOf_X5_uses : GoodIn wsX5_isOf wsX5_uses := goodIn_r _ [5, 6, 7, 8, 9, 10, 11, 12, 13, 14, 15, 16, 17, 18, 19, 20, 21, 22, 23, 24, 25, 26] (by decide +kernel) (by decide +kernel)
set_option maxRecDepth 20000 in
theorem gX5_isOf_X5_uses : GoodIn wsX5_isOf (wsV RX5 105 RX5 yX5_uses wsX5_uses) := goodIn_app (goodIn_of _ (by decide +kernel)) ggX5_isOf_X5_uses
theorem dX5_isOf_0 : decode cX5_isOf 0 = .ok (.iload_n 2, 1) := by decide +kernel
theorem dX5_isOf_1 : decode cX5_isOf 1 = .ok (.ifCond .ne 18, 3) := by decide +kernel
theorem dX5_isOf_4 : decode cX5_isOf 4 = .ok (.iload_n 1, 1) := by decide +kernel
theorem dX5_isOf_5 : decode cX5_isOf 5 = .ok (.iconst 5, 1) := by decide +kernel
theorem dX5_isOf_6 : decode cX5_isOf 6 = .ok (.idiv, 1) := by decide +kernel
theorem dX5_isOf_7 : decode cX5_isOf 7 = .ok (.iload_n 3, 1) := by decide +kernel
theorem dX5_isOf_8 : decode cX5_isOf 8 = .ok (.if_icmp .ne 7, 3) := by decide +kernel
theorem dX5_isOf_11 : decode cX5_isOf 11 = .ok (.iconst 1, 1) := by decide +kernel
theorem dX5_isOf_12 : decode cX5_isOf 12 = .ok (.goto 33, 3) := by decide +kernel
theorem dX5_isOf_15 : decode cX5_isOf 15 = .ok (.iconst 0, 1) := by decide +kernel
theorem dX5_isOf_16 : decode cX5_isOf 16 = .ok (.goto 29, 3) := by decide +kernel
theorem dX5_isOf_19 : decode cX5_isOf 19 = .ok (.iload_n 2, 1) := by decide +kernel
theorem dX5_isOf_20 : decode cX5_isOf 20 = .ok (.iconst 1, 1) := by decide +kernel
theorem dX5_isOf_21 : decode cX5_isOf 21 = .ok (.if_icmp .ne 18, 3) := by decide +kernel
theorem dX5_isOf_24 : decode cX5_isOf 24 = .ok (.iload_n 1, 1) := by decide +kernel
theorem dX5_isOf_25 : decode cX5_isOf 25 = .ok (.iconst 5, 1) := by decide +kernel
theorem dX5_isOf_26 : decode cX5_isOf 26 = .ok (.irem, 1) := by decide +kernel
theorem dX5_isOf_27 : decode cX5_isOf 27 = .ok (.iload_n 3, 1) := by decide +kernel
theorem dX5_isOf_28 : decode cX5_isOf 28 = .ok (.if_icmp .ne 7, 3) := by decide +kernel
theorem dX5_isOf_31 : decode cX5_isOf 31 = .ok (.iconst 1, 1) := by decide +kernel
theorem dX5_isOf_32 : decode cX5_isOf 32 = .ok (.goto 13, 3) := by decide +kernel
theorem dX5_isOf_35 : decode cX5_isOf 35 = .ok (.iconst 0, 1) := by decide +kernel
theorem dX5_isOf_36 : decode cX5_isOf 36 = .ok (.goto 9, 3) := by decide +kernel
theorem dX5_isOf_39 : decode cX5_isOf 39 = .ok (.aload_n 0, 1) := by decide +kernel
theorem dX5_isOf_40 : decode cX5_isOf 40 = .ok (.iload_n 1, 1) := by decide +kernel
theorem dX5_isOf_41 : decode cX5_isOf 41 = .ok (.iload_n 3, 1) := by decide +kernel
theorem dX5_isOf_42 : decode cX5_isOf 42 = .ok (.invokevirtual 105, 3) := by decide +kernel
theorem dX5_isOf_45 : decode cX5_isOf 45 = .ok (.ireturn, 1) := by decide +kernel
set_option maxRecDepth 20000 in
theorem ggX5_sumOf_X5_isOf : GoodIn wsX5_sumOf wsX5_isOf := goodIn_r _ [6, 7, 8, 9, 5, 10, 11, 12, 13, 14, 15, 16, 17, 18, 19, 20, 21, 22, 23, 24, 25, 26, 27, 28, 29, 30, 31] (by decide +kernel) (by decide +kernel)
set_option maxRecDepth 20000 in
theorem gX5_sumOf_X5_isOf : GoodIn wsX5_sumOf (wsV RX5 161 RX5 yX5_isOf wsX5_isOf) := goodIn_app (goodIn_of _ (by decide +kernel)) ggX5_sumOf_X5_isOf
theorem dX5_sumOf_0 : decode cX5_sumOf 0 = .ok (.lconst 0, 1) := by decide +kernel
theorem dX5_sumOf_1 : decode cX5_sumOf 1 = .ok (.lstore_n 3, 1) := by decide +kernel
theorem dX5_sumOf_2 : decode cX5_sumOf 2 = .ok (.iconst 0, 1) := by decide +kernel
theorem dX5_sumOf_3 : decode cX5_sumOf 3 = .ok (.istore 5, 2) := by decide +kernel
theorem dX5_sumOf_5 : decode cX5_sumOf 5 = .ok (.iload 5, 2) := by decide +kernel
theorem dX5_sumOf_7 : decode cX5_sumOf 7 = .ok (.bipush 25, 2) := by decide +kernel
theorem dX5_sumOf_9 : decode cX5_sumOf 9 = .ok (.if_icmp .ge 34, 3) := by decide +kernel
theorem dX5_sumOf_12 : decode cX5_sumOf 12 = .ok (.lload_n 3, 1) := by decide +kernel
theorem dX5_sumOf_13 : decode cX5_sumOf 13 = .ok (.aload_n 0, 1) := by decide +kernel
theorem dX5_sumOf_14 : decode cX5_sumOf 14 = .ok (.iload 5, 2) := by decide +kernel
theorem dX5_sumOf_16 : decode cX5_sumOf 16 = .ok (.iload_n 1, 1) := by decide +kernel
theorem dX5_sumOf_17 : decode cX5_sumOf 17 = .ok (.iload_n 2, 1) := by decide +kernel
theorem dX5_sumOf_18 : decode cX5_sumOf 18 = .ok (.invokevirtual 161, 3) := by decide +kernel
theorem dX5_sumOf_21 : decode cX5_sumOf 21 = .ok (.ifCond .eq 13, 3) := by decide +kernel
theorem dX5_sumOf_24 : decode cX5_sumOf 24 = .ok (.aload_n 0, 1) := by decide +kernel
theorem dX5_sumOf_25 : decode cX5_sumOf 25 = .ok (.getfield 38, 3) := by decide +kernel
theorem dX5_sumOf_28 : decode cX5_sumOf 28 = .ok (.iload 5, 2) := by decide +kernel
theorem dX5_sumOf_30 : decode cX5_sumOf 30 = .ok (.laload, 1) := by decide +kernel
theorem dX5_sumOf_31 : decode cX5_sumOf 31 = .ok (.goto 4, 3) := by decide +kernel
theorem dX5_sumOf_34 : decode cX5_sumOf 34 = .ok (.lconst 0, 1) := by decide +kernel
theorem dX5_sumOf_35 : decode cX5_sumOf 35 = .ok (.ladd, 1) := by decide +kernel
theorem dX5_sumOf_36 : decode cX5_sumOf 36 = .ok (.lstore_n 3, 1) := by decide +kernel
theorem dX5_sumOf_37 : decode cX5_sumOf 37 = .ok (.iinc 5 1, 3) := by decide +kernel
theorem dX5_sumOf_40 : decode cX5_sumOf 40 = .ok (.goto (-35), 3) := by decide +kernel
theorem dX5_sumOf_43 : decode cX5_sumOf 43 = .ok (.lload_n 3, 1) := by decide +kernel
theorem dX5_sumOf_44 : decode cX5_sumOf 44 = .ok (.lreturn, 1) := by decide +kernel
set_option maxRecDepth 20000 in
theorem ggX5_fits_X5_sumOf : GoodIn wsX5_fits wsX5_sumOf := goodIn_r _ [7, 1, 8, 9, 10, 6, 11, 12, 13, 14, 15, 16, 17, 18, 19, 20, 21, 22, 23, 24, 25, 26, 27, 28, 29, 30, 31, 32, 33, 34, 35, 36] (by decide +kernel) (by decide +kernel)
set_option maxRecDepth 20000 in
theorem gX5_fits_X5_sumOf : GoodIn wsX5_fits (wsV RX5 164 RX5 yX5_sumOf wsX5_sumOf) := goodIn_app (goodIn_of _ (by decide +kernel)) ggX5_fits_X5_sumOf
set_option maxRecDepth 20000 in
theorem ggX5_fits_X5_isOf : GoodIn wsX5_fits wsX5_isOf := goodIn_r _ [11, 12, 13, 14, 6, 15, 16, 17, 18, 19, 20, 21, 22, 23, 24, 25, 26, 27, 28, 29, 30, 31, 32, 33, 34, 35, 36] (by decide +kernel) (by decide +kernel)
set_option maxRecDepth 20000 in
theorem gX5_fits_X5_isOf : GoodIn wsX5_fits (wsV RX5 161 RX5 yX5_isOf wsX5_isOf) := goodIn_app (goodIn_of _ (by decide +kernel)) ggX5_fits_X5_isOf
theorem dX5_fits_0 : decode cX5_fits 0 = .ok (.aload_n 0, 1) := by decide +kernel
theorem dX5_fits_1 : decode cX5_fits 1 = .ok (.iload_n 1, 1) := by decide +kernel
theorem dX5_fits_2 : decode cX5_fits 2 = .ok (.iload_n 2, 1) := by decide +kernel
theorem dX5_fits_3 : decode cX5_fits 3 = .ok (.invokevirtual 164, 3) := by decide +kernel
theorem dX5_fits_6 : decode cX5_fits 6 = .ok (.lstore 4, 2) := by decide +kernel
theorem dX5_fits_8 : decode cX5_fits 8 = .ok (.iconst 0, 1) := by decide +kernel
theorem dX5_fits_9 : decode cX5_fits 9 = .ok (.istore 6, 2) := by decide +kernel
theorem dX5_fits_11 : decode cX5_fits 11 = .ok (.iload 6, 2) := by decide +kernel
theorem dX5_fits_13 : decode cX5_fits 13 = .ok (.bipush 25, 2) := by decide +kernel
theorem dX5_fits_15 : decode cX5_fits 15 = .ok (.if_icmp .ge 61, 3) := by decide +kernel
theorem dX5_fits_18 : decode cX5_fits 18 = .ok (.lload 4, 2) := by decide +kernel
theorem dX5_fits_20 : decode cX5_fits 20 = .ok (.lconst 0, 1) := by decide +kernel
theorem dX5_fits_21 : decode cX5_fits 21 = .ok (.lcmp, 1) := by decide +kernel
theorem dX5_fits_22 : decode cX5_fits 22 = .ok (.ifCond .le 54, 3) := by decide +kernel
theorem dX5_fits_25 : decode cX5_fits 25 = .ok (.aload_n 0, 1) := by decide +kernel
theorem dX5_fits_26 : decode cX5_fits 26 = .ok (.getfield 38, 3) := by decide +kernel
theorem dX5_fits_29 : decode cX5_fits 29 = .ok (.iload 6, 2) := by decide +kernel
theorem dX5_fits_31 : decode cX5_fits 31 = .ok (.aload_n 0, 1) := by decide +kernel
theorem dX5_fits_32 : decode cX5_fits 32 = .ok (.iload 6, 2) := by decide +kernel
theorem dX5_fits_34 : decode cX5_fits 34 = .ok (.iload_n 1, 1) := by decide +kernel
theorem dX5_fits_35 : decode cX5_fits 35 = .ok (.iload_n 2, 1) := by decide +kernel
theorem dX5_fits_36 : decode cX5_fits 36 = .ok (.invokevirtual 161, 3) := by decide +kernel
theorem dX5_fits_39 : decode cX5_fits 39 = .ok (.ifCond .eq 23, 3) := by decide +kernel
theorem dX5_fits_42 : decode cX5_fits 42 = .ok (.aload_n 0, 1) := by decide +kernel
theorem dX5_fits_43 : decode cX5_fits 43 = .ok (.getfield 38, 3) := by decide +kernel
theorem dX5_fits_46 : decode cX5_fits 46 = .ok (.iload 6, 2) := by decide +kernel
theorem dX5_fits_48 : decode cX5_fits 48 = .ok (.laload, 1) := by decide +kernel
theorem dX5_fits_49 : decode cX5_fits 49 = .ok (.iload_n 3, 1) := by decide +kernel
theorem dX5_fits_50 : decode cX5_fits 50 = .ok (.i2l, 1) := by decide +kernel
theorem dX5_fits_51 : decode cX5_fits 51 = .ok (.lmul, 1) := by decide +kernel
theorem dX5_fits_52 : decode cX5_fits 52 = .ok (.ldc2_w 159, 3) := by decide +kernel
theorem dX5_fits_55 : decode cX5_fits 55 = .ok (.lmul, 1) := by decide +kernel
theorem dX5_fits_56 : decode cX5_fits 56 = .ok (.lload 4, 2) := by decide +kernel
theorem dX5_fits_58 : decode cX5_fits 58 = .ok (.ldiv, 1) := by decide +kernel
theorem dX5_fits_59 : decode cX5_fits 59 = .ok (.goto 10, 3) := by decide +kernel
theorem dX5_fits_62 : decode cX5_fits 62 = .ok (.aload_n 0, 1) := by decide +kernel
theorem dX5_fits_63 : decode cX5_fits 63 = .ok (.getfield 38, 3) := by decide +kernel
theorem dX5_fits_66 : decode cX5_fits 66 = .ok (.iload 6, 2) := by decide +kernel
theorem dX5_fits_68 : decode cX5_fits 68 = .ok (.laload, 1) := by decide +kernel
theorem dX5_fits_69 : decode cX5_fits 69 = .ok (.lastore, 1) := by decide +kernel
theorem dX5_fits_70 : decode cX5_fits 70 = .ok (.iinc 6 1, 3) := by decide +kernel
theorem dX5_fits_73 : decode cX5_fits 73 = .ok (.goto (-62), 3) := by decide +kernel
theorem dX5_fits_76 : decode cX5_fits 76 = .ok (.return_, 1) := by decide +kernel
set_option maxRecDepth 20000 in
theorem ggX5_fitTotals_X5_within : GoodIn wsX5_fitTotals wsX5_within := goodIn_r _ [7] (by decide +kernel) (by decide +kernel)
set_option maxRecDepth 20000 in
theorem gX5_fitTotals_X5_within : GoodIn wsX5_fitTotals (va_wsS RX5 64 yX5_within wsX5_within) := goodIn_app (goodIn_of _ (by decide +kernel)) ggX5_fitTotals_X5_within
set_option maxRecDepth 20000 in
theorem ggX5_fitTotals_X5_keeps : GoodIn wsX5_fitTotals wsX5_keeps := goodIn_r _ [11, 12, 13, 14, 15, 16, 6, 17, 18, 19, 20, 1, 21, 22, 23, 24, 25, 26, 27, 28, 29, 30, 31, 32, 33, 34, 35, 36, 37, 38, 39, 40, 41, 42, 43, 44, 66, 67, 68, 69, 70, 71, 72, 73, 74, 75, 76, 77, 78, 79, 80, 81, 82, 83, 84, 85] (by decide +kernel) (by decide +kernel)
set_option maxRecDepth 20000 in
theorem gX5_fitTotals_X5_keeps : GoodIn wsX5_fitTotals (wsV RX5 168 RX5 yX5_keeps wsX5_keeps) := goodIn_app (goodIn_of _ (by decide +kernel)) ggX5_fitTotals_X5_keeps
set_option maxRecDepth 20000 in
theorem ggX5_fitTotals_X5_fits : GoodIn wsX5_fitTotals wsX5_fits := goodIn_r _ [48, 13, 49, 50, 51, 52, 6, 53, 54, 55, 56, 57, 58, 59, 60, 61, 23, 66, 67, 68, 69, 70, 71, 72, 73, 74, 75, 76, 77, 78, 79, 80, 81, 82, 83, 84, 85] (by decide +kernel) (by decide +kernel)
set_option maxRecDepth 20000 in
theorem gX5_fitTotals_X5_fits : GoodIn wsX5_fitTotals (wsV RX5 171 RX5 yX5_fits wsX5_fits) := goodIn_app (goodIn_of _ (by decide +kernel)) ggX5_fitTotals_X5_fits
set_option maxRecDepth 20000 in
theorem ggX5_fitTotals_X5_changed : GoodIn wsX5_fitTotals wsX5_changed := goodIn_r _ [65, 13, 12, 66, 67, 68, 69, 70, 71, 72, 73, 74, 75, 76, 77, 78, 79, 80, 81, 82, 83, 84, 85] (by decide +kernel) (by decide +kernel)
set_option maxRecDepth 20000 in
theorem gX5_fitTotals_X5_changed : GoodIn wsX5_fitTotals (wsV RX5 174 RX5 yX5_changed wsX5_changed) := goodIn_app (goodIn_of _ (by decide +kernel)) ggX5_fitTotals_X5_changed
theorem dX5_fitTotals_0 : decode cX5_fitTotals 0 = .ok (.iload_n 1, 1) := by decide +kernel
theorem dX5_fitTotals_1 : decode cX5_fitTotals 1 = .ok (.iconst 1, 1) := by decide +kernel
theorem dX5_fitTotals_2 : decode cX5_fitTotals 2 = .ok (.bipush 50, 2) := by decide +kernel
theorem dX5_fitTotals_4 : decode cX5_fitTotals 4 = .ok (.invokestatic 64, 3) := by decide +kernel
theorem dX5_fitTotals_7 : decode cX5_fitTotals 7 = .ok (.ifCond .ne 6, 3) := by decide +kernel
theorem dX5_fitTotals_10 : decode cX5_fitTotals 10 = .ok (.bipush (-4), 2) := by decide +kernel
theorem dX5_fitTotals_12 : decode cX5_fitTotals 12 = .ok (.ireturn, 1) := by decide +kernel
theorem dX5_fitTotals_13 : decode cX5_fitTotals 13 = .ok (.aload_n 0, 1) := by decide +kernel
theorem dX5_fitTotals_14 : decode cX5_fitTotals 14 = .ok (.invokevirtual 168, 3) := by decide +kernel
theorem dX5_fitTotals_17 : decode cX5_fitTotals 17 = .ok (.iconst 0, 1) := by decide +kernel
theorem dX5_fitTotals_18 : decode cX5_fitTotals 18 = .ok (.istore_n 2, 1) := by decide +kernel
theorem dX5_fitTotals_19 : decode cX5_fitTotals 19 = .ok (.iload_n 2, 1) := by decide +kernel
theorem dX5_fitTotals_20 : decode cX5_fitTotals 20 = .ok (.iload_n 1, 1) := by decide +kernel
theorem dX5_fitTotals_21 : decode cX5_fitTotals 21 = .ok (.if_icmp .ge 65, 3) := by decide +kernel
theorem dX5_fitTotals_24 : decode cX5_fitTotals 24 = .ok (.iconst 0, 1) := by decide +kernel
theorem dX5_fitTotals_25 : decode cX5_fitTotals 25 = .ok (.istore_n 3, 1) := by decide +kernel
theorem dX5_fitTotals_26 : decode cX5_fitTotals 26 = .ok (.iload_n 3, 1) := by decide +kernel
theorem dX5_fitTotals_27 : decode cX5_fitTotals 27 = .ok (.aload_n 0, 1) := by decide +kernel
theorem dX5_fitTotals_28 : decode cX5_fitTotals 28 = .ok (.getfield 60, 3) := by decide +kernel
theorem dX5_fitTotals_31 : decode cX5_fitTotals 31 = .ok (.if_icmp .ge 21, 3) := by decide +kernel
theorem dX5_fitTotals_34 : decode cX5_fitTotals 34 = .ok (.aload_n 0, 1) := by decide +kernel
theorem dX5_fitTotals_35 : decode cX5_fitTotals 35 = .ok (.iconst 0, 1) := by decide +kernel
theorem dX5_fitTotals_36 : decode cX5_fitTotals 36 = .ok (.iload_n 3, 1) := by decide +kernel
theorem dX5_fitTotals_37 : decode cX5_fitTotals 37 = .ok (.aload_n 0, 1) := by decide +kernel
theorem dX5_fitTotals_38 : decode cX5_fitTotals 38 = .ok (.getfield 25, 3) := by decide +kernel
theorem dX5_fitTotals_41 : decode cX5_fitTotals 41 = .ok (.iload_n 3, 1) := by decide +kernel
theorem dX5_fitTotals_42 : decode cX5_fitTotals 42 = .ok (.iaload, 1) := by decide +kernel
theorem dX5_fitTotals_43 : decode cX5_fitTotals 43 = .ok (.invokevirtual 171, 3) := by decide +kernel
theorem dX5_fitTotals_46 : decode cX5_fitTotals 46 = .ok (.iinc 3 1, 3) := by decide +kernel
theorem dX5_fitTotals_49 : decode cX5_fitTotals 49 = .ok (.goto (-23), 3) := by decide +kernel
theorem dX5_fitTotals_52 : decode cX5_fitTotals 52 = .ok (.iconst 0, 1) := by decide +kernel
theorem dX5_fitTotals_53 : decode cX5_fitTotals 53 = .ok (.istore_n 3, 1) := by decide +kernel
theorem dX5_fitTotals_54 : decode cX5_fitTotals 54 = .ok (.iload_n 3, 1) := by decide +kernel
theorem dX5_fitTotals_55 : decode cX5_fitTotals 55 = .ok (.aload_n 0, 1) := by decide +kernel
theorem dX5_fitTotals_56 : decode cX5_fitTotals 56 = .ok (.getfield 60, 3) := by decide +kernel
theorem dX5_fitTotals_59 : decode cX5_fitTotals 59 = .ok (.if_icmp .ge 21, 3) := by decide +kernel
theorem dX5_fitTotals_62 : decode cX5_fitTotals 62 = .ok (.aload_n 0, 1) := by decide +kernel
theorem dX5_fitTotals_63 : decode cX5_fitTotals 63 = .ok (.iconst 1, 1) := by decide +kernel
theorem dX5_fitTotals_64 : decode cX5_fitTotals 64 = .ok (.iload_n 3, 1) := by decide +kernel
theorem dX5_fitTotals_65 : decode cX5_fitTotals 65 = .ok (.aload_n 0, 1) := by decide +kernel
theorem dX5_fitTotals_66 : decode cX5_fitTotals 66 = .ok (.getfield 28, 3) := by decide +kernel
theorem dX5_fitTotals_69 : decode cX5_fitTotals 69 = .ok (.iload_n 3, 1) := by decide +kernel
theorem dX5_fitTotals_70 : decode cX5_fitTotals 70 = .ok (.iaload, 1) := by decide +kernel
theorem dX5_fitTotals_71 : decode cX5_fitTotals 71 = .ok (.invokevirtual 171, 3) := by decide +kernel
theorem dX5_fitTotals_74 : decode cX5_fitTotals 74 = .ok (.iinc 3 1, 3) := by decide +kernel
theorem dX5_fitTotals_77 : decode cX5_fitTotals 77 = .ok (.goto (-23), 3) := by decide +kernel
theorem dX5_fitTotals_80 : decode cX5_fitTotals 80 = .ok (.iinc 2 1, 3) := by decide +kernel
theorem dX5_fitTotals_83 : decode cX5_fitTotals 83 = .ok (.goto (-64), 3) := by decide +kernel
theorem dX5_fitTotals_86 : decode cX5_fitTotals 86 = .ok (.aload_n 0, 1) := by decide +kernel
theorem dX5_fitTotals_87 : decode cX5_fitTotals 87 = .ok (.invokevirtual 174, 3) := by decide +kernel
theorem dX5_fitTotals_90 : decode cX5_fitTotals 90 = .ok (.ireturn, 1) := by decide +kernel
set_option maxRecDepth 20000 in
theorem ggX5_fitLinks_X5_within : GoodIn wsX5_fitLinks wsX5_within := goodIn_r _ [6] (by decide +kernel) (by decide +kernel)
set_option maxRecDepth 20000 in
theorem gX5_fitLinks_X5_within : GoodIn wsX5_fitLinks (va_wsS RX5 64 yX5_within wsX5_within) := goodIn_app (goodIn_of _ (by decide +kernel)) ggX5_fitLinks_X5_within
set_option maxRecDepth 20000 in
theorem ggX5_fitLinks_X5_keeps : GoodIn wsX5_fitLinks wsX5_keeps := goodIn_r _ [10, 11, 12, 13, 14, 15, 5, 16, 17, 18, 1, 19, 20, 21, 22, 23, 24, 25, 26, 27, 28, 29, 30, 31, 32, 33, 34, 35, 36, 37, 38, 39, 40, 41, 42, 43, 65, 66, 67, 68, 69, 70, 71, 72, 73, 74, 75, 76, 77, 78, 79, 80, 81, 82, 83, 84] (by decide +kernel) (by decide +kernel)
set_option maxRecDepth 20000 in
theorem gX5_fitLinks_X5_keeps : GoodIn wsX5_fitLinks (wsV RX5 168 RX5 yX5_keeps wsX5_keeps) := goodIn_app (goodIn_of _ (by decide +kernel)) ggX5_fitLinks_X5_keeps
set_option maxRecDepth 20000 in
theorem ggX5_fitLinks_X5_fits : GoodIn wsX5_fitLinks wsX5_fits := goodIn_r _ [47, 12, 48, 49, 50, 51, 5, 52, 53, 54, 55, 56, 57, 58, 59, 60, 22, 65, 66, 67, 68, 69, 70, 71, 72, 73, 74, 75, 76, 77, 78, 79, 80, 81, 82, 83, 84] (by decide +kernel) (by decide +kernel)
set_option maxRecDepth 20000 in
theorem gX5_fitLinks_X5_fits : GoodIn wsX5_fitLinks (wsV RX5 171 RX5 yX5_fits wsX5_fits) := goodIn_app (goodIn_of _ (by decide +kernel)) ggX5_fitLinks_X5_fits
set_option maxRecDepth 20000 in
theorem ggX5_fitLinks_X5_changed : GoodIn wsX5_fitLinks wsX5_changed := goodIn_r _ [64, 12, 11, 65, 66, 67, 68, 69, 70, 71, 72, 73, 74, 75, 76, 77, 78, 79, 80, 81, 82, 83, 84] (by decide +kernel) (by decide +kernel)
set_option maxRecDepth 20000 in
theorem gX5_fitLinks_X5_changed : GoodIn wsX5_fitLinks (wsV RX5 174 RX5 yX5_changed wsX5_changed) := goodIn_app (goodIn_of _ (by decide +kernel)) ggX5_fitLinks_X5_changed
theorem dX5_fitLinks_0 : decode cX5_fitLinks 0 = .ok (.iload_n 1, 1) := by decide +kernel
theorem dX5_fitLinks_1 : decode cX5_fitLinks 1 = .ok (.iconst 1, 1) := by decide +kernel
theorem dX5_fitLinks_2 : decode cX5_fitLinks 2 = .ok (.bipush 50, 2) := by decide +kernel
theorem dX5_fitLinks_4 : decode cX5_fitLinks 4 = .ok (.invokestatic 64, 3) := by decide +kernel
theorem dX5_fitLinks_7 : decode cX5_fitLinks 7 = .ok (.ifCond .ne 6, 3) := by decide +kernel
theorem dX5_fitLinks_10 : decode cX5_fitLinks 10 = .ok (.bipush (-4), 2) := by decide +kernel
theorem dX5_fitLinks_12 : decode cX5_fitLinks 12 = .ok (.ireturn, 1) := by decide +kernel
theorem dX5_fitLinks_13 : decode cX5_fitLinks 13 = .ok (.aload_n 0, 1) := by decide +kernel
theorem dX5_fitLinks_14 : decode cX5_fitLinks 14 = .ok (.invokevirtual 168, 3) := by decide +kernel
theorem dX5_fitLinks_17 : decode cX5_fitLinks 17 = .ok (.iconst 0, 1) := by decide +kernel
theorem dX5_fitLinks_18 : decode cX5_fitLinks 18 = .ok (.istore_n 2, 1) := by decide +kernel
theorem dX5_fitLinks_19 : decode cX5_fitLinks 19 = .ok (.iload_n 2, 1) := by decide +kernel
theorem dX5_fitLinks_20 : decode cX5_fitLinks 20 = .ok (.iload_n 1, 1) := by decide +kernel
theorem dX5_fitLinks_21 : decode cX5_fitLinks 21 = .ok (.if_icmp .ge 37, 3) := by decide +kernel
theorem dX5_fitLinks_24 : decode cX5_fitLinks 24 = .ok (.iconst 0, 1) := by decide +kernel
theorem dX5_fitLinks_25 : decode cX5_fitLinks 25 = .ok (.istore_n 3, 1) := by decide +kernel
theorem dX5_fitLinks_26 : decode cX5_fitLinks 26 = .ok (.iload_n 3, 1) := by decide +kernel
theorem dX5_fitLinks_27 : decode cX5_fitLinks 27 = .ok (.aload_n 0, 1) := by decide +kernel
theorem dX5_fitLinks_28 : decode cX5_fitLinks 28 = .ok (.getfield 68, 3) := by decide +kernel
theorem dX5_fitLinks_31 : decode cX5_fitLinks 31 = .ok (.if_icmp .ge 21, 3) := by decide +kernel
theorem dX5_fitLinks_34 : decode cX5_fitLinks 34 = .ok (.aload_n 0, 1) := by decide +kernel
theorem dX5_fitLinks_35 : decode cX5_fitLinks 35 = .ok (.iconst 2, 1) := by decide +kernel
theorem dX5_fitLinks_36 : decode cX5_fitLinks 36 = .ok (.iload_n 3, 1) := by decide +kernel
theorem dX5_fitLinks_37 : decode cX5_fitLinks 37 = .ok (.aload_n 0, 1) := by decide +kernel
theorem dX5_fitLinks_38 : decode cX5_fitLinks 38 = .ok (.getfield 22, 3) := by decide +kernel
theorem dX5_fitLinks_41 : decode cX5_fitLinks 41 = .ok (.iload_n 3, 1) := by decide +kernel
theorem dX5_fitLinks_42 : decode cX5_fitLinks 42 = .ok (.iaload, 1) := by decide +kernel
theorem dX5_fitLinks_43 : decode cX5_fitLinks 43 = .ok (.invokevirtual 171, 3) := by decide +kernel
theorem dX5_fitLinks_46 : decode cX5_fitLinks 46 = .ok (.iinc 3 1, 3) := by decide +kernel
theorem dX5_fitLinks_49 : decode cX5_fitLinks 49 = .ok (.goto (-23), 3) := by decide +kernel
theorem dX5_fitLinks_52 : decode cX5_fitLinks 52 = .ok (.iinc 2 1, 3) := by decide +kernel
theorem dX5_fitLinks_55 : decode cX5_fitLinks 55 = .ok (.goto (-36), 3) := by decide +kernel
theorem dX5_fitLinks_58 : decode cX5_fitLinks 58 = .ok (.aload_n 0, 1) := by decide +kernel
theorem dX5_fitLinks_59 : decode cX5_fitLinks 59 = .ok (.invokevirtual 174, 3) := by decide +kernel
theorem dX5_fitLinks_62 : decode cX5_fitLinks 62 = .ok (.ireturn, 1) := by decide +kernel
set_option maxRecDepth 20000 in
theorem ggX5_estimate_X5_refused : GoodIn wsX5_estimate wsX5_refused := goodIn_r _ [7, 8, 9, 10, 6, 11, 12, 13, 14, 15, 16, 17, 18, 19, 20, 21, 22, 23, 24, 25, 26, 27, 28, 29, 30, 31, 32, 33, 34, 35] (by decide +kernel) (by decide +kernel)
set_option maxRecDepth 20000 in
theorem gX5_estimate_X5_refused : GoodIn wsX5_estimate (wsV RX5 75 RX5 yX5_refused wsX5_refused) := goodIn_app (goodIn_of _ (by decide +kernel)) ggX5_estimate_X5_refused
theorem dX5_estimate_0 : decode cX5_estimate 0 = .ok (.aload_n 0, 1) := by decide +kernel
theorem dX5_estimate_1 : decode cX5_estimate 1 = .ok (.iload_n 1, 1) := by decide +kernel
theorem dX5_estimate_2 : decode cX5_estimate 2 = .ok (.iload_n 2, 1) := by decide +kernel
theorem dX5_estimate_3 : decode cX5_estimate 3 = .ok (.invokevirtual 75, 3) := by decide +kernel
theorem dX5_estimate_6 : decode cX5_estimate 6 = .ok (.ifCond .eq 9, 3) := by decide +kernel
theorem dX5_estimate_9 : decode cX5_estimate 9 = .ok (.ldc2_w 151, 3) := by decide +kernel
theorem dX5_estimate_12 : decode cX5_estimate 12 = .ok (.goto 13, 3) := by decide +kernel
theorem dX5_estimate_15 : decode cX5_estimate 15 = .ok (.aload_n 0, 1) := by decide +kernel
theorem dX5_estimate_16 : decode cX5_estimate 16 = .ok (.getfield 38, 3) := by decide +kernel
theorem dX5_estimate_19 : decode cX5_estimate 19 = .ok (.iconst 5, 1) := by decide +kernel
theorem dX5_estimate_20 : decode cX5_estimate 20 = .ok (.iload_n 1, 1) := by decide +kernel
theorem dX5_estimate_21 : decode cX5_estimate 21 = .ok (.imul, 1) := by decide +kernel
theorem dX5_estimate_22 : decode cX5_estimate 22 = .ok (.iload_n 2, 1) := by decide +kernel
theorem dX5_estimate_23 : decode cX5_estimate 23 = .ok (.iadd, 1) := by decide +kernel
theorem dX5_estimate_24 : decode cX5_estimate 24 = .ok (.laload, 1) := by decide +kernel
theorem dX5_estimate_25 : decode cX5_estimate 25 = .ok (.lreturn, 1) := by decide +kernel
set_option maxRecDepth 20000 in
theorem ggX5_residual_X5_isLink : GoodIn wsX5_residual wsX5_isLink := goodIn_r _ [8, 9, 10, 11, 7, 12, 53, 54, 55, 56, 57, 58, 59, 60, 61, 62, 63, 64, 65, 66, 67, 68, 69, 70, 71, 72] (by decide +kernel) (by decide +kernel)
set_option maxRecDepth 20000 in
theorem gX5_residual_X5_isLink : GoodIn wsX5_residual (wsV RX5 79 RX5 yX5_isLink wsX5_isLink) := goodIn_app (goodIn_of _ (by decide +kernel)) ggX5_residual_X5_isLink
set_option maxRecDepth 20000 in
theorem ggX5_residual_X5_findRoutes : GoodIn wsX5_residual wsX5_findRoutes := goodIn_r _ [16, 17, 18, 9, 19, 20, 21, 22, 23, 24, 25, 7, 26, 27, 28, 29, 30, 31, 32, 33, 34, 35, 36, 37, 38, 39, 53, 54, 55, 56, 57, 58, 59, 60, 61, 62, 63, 64, 65, 66, 67, 68, 69, 70, 71, 72] (by decide +kernel) (by decide +kernel)
set_option maxRecDepth 20000 in
theorem gX5_residual_X5_findRoutes : GoodIn wsX5_residual (wsV RX5 96 RX5 yX5_findRoutes wsX5_findRoutes) := goodIn_app (goodIn_of _ (by decide +kernel)) ggX5_residual_X5_findRoutes
set_option maxRecDepth 20000 in
theorem ggX5_residual_X5_sumOf : GoodIn wsX5_residual wsX5_sumOf := goodIn_r _ [43, 44, 45, 46, 47, 7, 48, 49, 50, 51, 52, 22, 53, 54, 55, 56, 57, 58, 59, 60, 61, 62, 63, 64, 65, 66, 67, 68, 69, 70, 71, 72] (by decide +kernel) (by decide +kernel)
set_option maxRecDepth 20000 in
theorem gX5_residual_X5_sumOf : GoodIn wsX5_residual (wsV RX5 164 RX5 yX5_sumOf wsX5_sumOf) := goodIn_app (goodIn_of _ (by decide +kernel)) ggX5_residual_X5_sumOf
theorem dX5_residual_0 : decode cX5_residual 0 = .ok (.aload_n 0, 1) := by decide +kernel
theorem dX5_residual_1 : decode cX5_residual 1 = .ok (.iload_n 1, 1) := by decide +kernel
theorem dX5_residual_2 : decode cX5_residual 2 = .ok (.invokevirtual 79, 3) := by decide +kernel
theorem dX5_residual_5 : decode cX5_residual 5 = .ok (.ifCond .ne 7, 3) := by decide +kernel
theorem dX5_residual_8 : decode cX5_residual 8 = .ok (.ldc2_w 151, 3) := by decide +kernel
theorem dX5_residual_11 : decode cX5_residual 11 = .ok (.lreturn, 1) := by decide +kernel
theorem dX5_residual_12 : decode cX5_residual 12 = .ok (.aload_n 0, 1) := by decide +kernel
theorem dX5_residual_13 : decode cX5_residual 13 = .ok (.invokevirtual 96, 3) := by decide +kernel
theorem dX5_residual_16 : decode cX5_residual 16 = .ok (.aload_n 0, 1) := by decide +kernel
theorem dX5_residual_17 : decode cX5_residual 17 = .ok (.iconst 2, 1) := by decide +kernel
theorem dX5_residual_18 : decode cX5_residual 18 = .ok (.iload_n 1, 1) := by decide +kernel
theorem dX5_residual_19 : decode cX5_residual 19 = .ok (.invokevirtual 164, 3) := by decide +kernel
theorem dX5_residual_22 : decode cX5_residual 22 = .ok (.ldc2_w 159, 3) := by decide +kernel
theorem dX5_residual_25 : decode cX5_residual 25 = .ok (.aload_n 0, 1) := by decide +kernel
theorem dX5_residual_26 : decode cX5_residual 26 = .ok (.getfield 22, 3) := by decide +kernel
theorem dX5_residual_29 : decode cX5_residual 29 = .ok (.iload_n 1, 1) := by decide +kernel
theorem dX5_residual_30 : decode cX5_residual 30 = .ok (.iaload, 1) := by decide +kernel
theorem dX5_residual_31 : decode cX5_residual 31 = .ok (.i2l, 1) := by decide +kernel
theorem dX5_residual_32 : decode cX5_residual 32 = .ok (.lmul, 1) := by decide +kernel
theorem dX5_residual_33 : decode cX5_residual 33 = .ok (.lsub, 1) := by decide +kernel
theorem dX5_residual_34 : decode cX5_residual 34 = .ok (.lreturn, 1) := by decide +kernel
set_option maxRecDepth 20000 in
theorem ggX5_totalError_X5_findRoutes : GoodIn wsX5_totalError wsX5_findRoutes := goodIn_r _ [8, 9, 10, 11, 12, 13, 14, 15, 16, 17, 18, 7, 19, 20, 21, 22, 23, 24, 25, 26, 27, 28, 29, 30, 31, 32, 37, 38, 39, 40, 41, 42, 43, 44, 45, 46, 47, 48, 49, 50, 51, 52, 53, 54, 55, 56] (by decide +kernel) (by decide +kernel)
set_option maxRecDepth 20000 in
theorem gX5_totalError_X5_findRoutes : GoodIn wsX5_totalError (wsV RX5 96 RX5 yX5_findRoutes wsX5_findRoutes) := goodIn_app (goodIn_of _ (by decide +kernel)) ggX5_totalError_X5_findRoutes
set_option maxRecDepth 20000 in
theorem ggX5_totalError_X5_hasRoute : GoodIn wsX5_totalError wsX5_hasRoute := goodIn_r _ [36, 15, 37, 38, 39, 40, 41, 42, 43, 44, 45, 46, 47, 48, 49, 50, 51, 52, 53, 54, 55, 56] (by decide +kernel) (by decide +kernel)
set_option maxRecDepth 20000 in
theorem gX5_totalError_X5_hasRoute : GoodIn wsX5_totalError (wsV RX5 99 RX5 yX5_hasRoute wsX5_hasRoute) := goodIn_app (goodIn_of _ (by decide +kernel)) ggX5_totalError_X5_hasRoute
theorem dX5_totalError_0 : decode cX5_totalError 0 = .ok (.aload_n 0, 1) := by decide +kernel
theorem dX5_totalError_1 : decode cX5_totalError 1 = .ok (.invokevirtual 96, 3) := by decide +kernel
theorem dX5_totalError_4 : decode cX5_totalError 4 = .ok (.lconst 0, 1) := by decide +kernel
theorem dX5_totalError_5 : decode cX5_totalError 5 = .ok (.lstore_n 1, 1) := by decide +kernel
theorem dX5_totalError_6 : decode cX5_totalError 6 = .ok (.iconst 0, 1) := by decide +kernel
theorem dX5_totalError_7 : decode cX5_totalError 7 = .ok (.istore_n 3, 1) := by decide +kernel
theorem dX5_totalError_8 : decode cX5_totalError 8 = .ok (.iload_n 3, 1) := by decide +kernel
theorem dX5_totalError_9 : decode cX5_totalError 9 = .ok (.bipush 25, 2) := by decide +kernel
theorem dX5_totalError_11 : decode cX5_totalError 11 = .ok (.if_icmp .ge 59, 3) := by decide +kernel
theorem dX5_totalError_14 : decode cX5_totalError 14 = .ok (.aload_n 0, 1) := by decide +kernel
theorem dX5_totalError_15 : decode cX5_totalError 15 = .ok (.getfield 38, 3) := by decide +kernel
theorem dX5_totalError_18 : decode cX5_totalError 18 = .ok (.iload_n 3, 1) := by decide +kernel
theorem dX5_totalError_19 : decode cX5_totalError 19 = .ok (.laload, 1) := by decide +kernel
theorem dX5_totalError_20 : decode cX5_totalError 20 = .ok (.ldc2_w 159, 3) := by decide +kernel
theorem dX5_totalError_23 : decode cX5_totalError 23 = .ok (.aload_n 0, 1) := by decide +kernel
theorem dX5_totalError_24 : decode cX5_totalError 24 = .ok (.getfield 19, 3) := by decide +kernel
theorem dX5_totalError_27 : decode cX5_totalError 27 = .ok (.iload_n 3, 1) := by decide +kernel
theorem dX5_totalError_28 : decode cX5_totalError 28 = .ok (.iaload, 1) := by decide +kernel
theorem dX5_totalError_29 : decode cX5_totalError 29 = .ok (.i2l, 1) := by decide +kernel
theorem dX5_totalError_30 : decode cX5_totalError 30 = .ok (.lmul, 1) := by decide +kernel
theorem dX5_totalError_31 : decode cX5_totalError 31 = .ok (.lsub, 1) := by decide +kernel
theorem dX5_totalError_32 : decode cX5_totalError 32 = .ok (.lstore 4, 2) := by decide +kernel
theorem dX5_totalError_34 : decode cX5_totalError 34 = .ok (.lload_n 1, 1) := by decide +kernel
theorem dX5_totalError_35 : decode cX5_totalError 35 = .ok (.aload_n 0, 1) := by decide +kernel
theorem dX5_totalError_36 : decode cX5_totalError 36 = .ok (.iload_n 3, 1) := by decide +kernel
theorem dX5_totalError_37 : decode cX5_totalError 37 = .ok (.invokevirtual 99, 3) := by decide +kernel
theorem dX5_totalError_40 : decode cX5_totalError 40 = .ok (.ifCond .ne 7, 3) := by decide +kernel
theorem dX5_totalError_43 : decode cX5_totalError 43 = .ok (.lconst 0, 1) := by decide +kernel
theorem dX5_totalError_44 : decode cX5_totalError 44 = .ok (.goto 18, 3) := by decide +kernel
theorem dX5_totalError_47 : decode cX5_totalError 47 = .ok (.lload 4, 2) := by decide +kernel
theorem dX5_totalError_49 : decode cX5_totalError 49 = .ok (.lconst 0, 1) := by decide +kernel
theorem dX5_totalError_50 : decode cX5_totalError 50 = .ok (.lcmp, 1) := by decide +kernel
theorem dX5_totalError_51 : decode cX5_totalError 51 = .ok (.ifCond .ge 9, 3) := by decide +kernel
theorem dX5_totalError_54 : decode cX5_totalError 54 = .ok (.lload 4, 2) := by decide +kernel
theorem dX5_totalError_56 : decode cX5_totalError 56 = .ok (.lneg, 1) := by decide +kernel
theorem dX5_totalError_57 : decode cX5_totalError 57 = .ok (.goto 5, 3) := by decide +kernel
theorem dX5_totalError_60 : decode cX5_totalError 60 = .ok (.lload 4, 2) := by decide +kernel
theorem dX5_totalError_62 : decode cX5_totalError 62 = .ok (.ladd, 1) := by decide +kernel
theorem dX5_totalError_63 : decode cX5_totalError 63 = .ok (.lstore_n 1, 1) := by decide +kernel
theorem dX5_totalError_64 : decode cX5_totalError 64 = .ok (.iinc 3 1, 3) := by decide +kernel
theorem dX5_totalError_67 : decode cX5_totalError 67 = .ok (.goto (-59), 3) := by decide +kernel
theorem dX5_totalError_70 : decode cX5_totalError 70 = .ok (.lload_n 1, 1) := by decide +kernel
theorem dX5_totalError_71 : decode cX5_totalError 71 = .ok (.lreturn, 1) := by decide +kernel
end
section
/-! the walk's own judgement: vV K G u lv st pc: from pc, with locals lv, operands st and the world of cells that u spells, the machine comes to the end that K names -/
abbrev vE : Type := (Program × Launch × Env × Room) × (State × MethodId × Array Value × List Frame) × (Method × Code) × (Nat × Nat)
abbrev eS (E : vE) : State := E.2.1.1
abbrev eM (E : vE) : MethodId := E.2.1.2.1
abbrev eR (E : vE) : Room := E.1.2.2.2
abbrev eA (E : vE) : Array Value := E.2.1.2.2.1
abbrev vW (E : vE) (H : Heap) (locs : List Loc) (Q : State → Prop) (g : JFrame) : Prop := W E.1.1 E.1.2.1 E.1.2.2.1 E.1.2.2.2 E.2.1.1 E.2.1.2.1 E.2.1.2.2.1 E.2.1.2.2.2 E.2.2.1.1 E.2.2.1.2 H locs E.2.2.2.1 E.2.2.2.2 Q g
abbrev vN : Type := String × Nat × MethodName × String
abbrev vG (S : Type) : Type := va_G × List (ClassId × FieldType) × List vN × (S → va_W)
abbrev vK : Type := vE × (Nat → Prop) × Nat × (State → Prop)
def vNs (ns : List vN) (U : State) : Prop := ∀ q ∈ ns, va_Nw (.methodLinkNest q.1 q.2.1 q.2.2.1 q.2.2.2) U
def vV {S : Type} (K : vK) (G : vG S) (u : S) (lv : List (Nat × Value)) (st : List Value) (pc : Nat) : Prop :=
  ∀ (H : Heap) (locs : List Loc) (ls : Array Slot), va_P G.1 vwCl (G.2.2.2 u) H → va_S K.2.1 (eS K.1).heap H locs → lv_has ls K.2.2.1 lv → vW K.1 H locs K.2.2.2 (F0 (eM K.1) pc ls st)
/-- what stands all along a method's walk -/
def eV {S : Type} (K : vK) (G : vG S) (cc : ByteArray) (nL : Nat) (own : String) (Ts : List Cond) (rm : Room) : Prop :=
  CallFix K.1.1.1 (eM K.1) K.1.2.2.1.2 cc nL (eS K.1) (eA K.1) Ts own ∧ va_K G.1 vwCl G.2.1 (eS K.1) ∧ (∀ u : S, va_D K.2.1 (G.2.2.2 u)) ∧ (∀ q, (eS K.1).heap.size ≤ q → K.2.1 q) ∧ vNs G.2.2.1 (eS K.1) ∧ eR K.1 = rm ∧ K.2.2.1 = nL ∧ K.1.2.2.2.1 ≤ rm.cells ∧ K.1.2.2.2.2 ≤ rm.slots
def bI (b : Bool) : Int32 := if b then 1 else 0
theorem bI_0 {b : Bool} : bI b = 0 ↔ b = false := by cases b <;> decide
theorem bI_1 {b : Bool} : bI b = 1 ↔ b = true := by cases b <;> decide
theorem bI_n (b : Bool) : narrow .boolean (.int (bI b)) = .int (bI b) := by cases b <;> decide
theorem bI_nar (b : Bool) : vp_nar .boolean (bI b) = bI b := by cases b <;> decide
section VV
variable {S : Type} {K : vK} {G : vG S} {cc : ByteArray} {nL : Nat} {own : String} {Ts : List Cond} {rm : Room} {u : S} {lv : List (Nat × Value)} {st : List Value} {pc : Nat}
theorem vV.cast {u' : S} {st' : List Value} (k : vV K G u' lv st' pc) (hu : u = u') (hs : st = st') : vV K G u lv st pc := by subst hu; subst hs; exact k
theorem vV.sub {lv' : List (Nat × Value)} (ks : List Nat) (hl : lv_pick lv ks = lv') (k : vV K G u lv' st pc) : vV K G u lv st pc := fun H locs ls hP hS h => k H locs ls hP hS (lv_sub h ks hl)
theorem v_lk {ls : Array Slot} {n : Nat} {l : List (Nat × Value)} (h : lv_has ls n l) {i : Nat} {v : Value} (hk : List.lookup i l = some v) : ls[i]? = some (.val v) := by
  refine h.2.2 (i, v) ?_
  clear h
  induction l with
  | nil => cases hk
  | cons q t ih =>
    obtain ⟨a, b⟩ := q
    simp only [List.lookup] at hk
    split at hk
    next e =>
      rw [beq_iff_eq] at e
      cases hk
      subst e
      exact List.mem_cons_self
    next e => exact List.mem_cons_of_mem _ (ih hk)

theorem v_iconst (n : Nat) (hE : eV K G cc nL own Ts rm) {i : Int} {v : Int32} (hd : decode cc pc = .ok (.iconst i, 1)) (hv : Int32.ofInt i = v) (hn : pc + 1 = n) (k : vV K G u lv (.int v :: st) n) : vV K G u lv (st) pc := fun H locs ls hP hS hl => lv_iconst hE.1.1 hE.1.2.1 hd hv (by subst hn; exact k H locs ls hP hS hl)
theorem v_bipush (n : Nat) (hE : eV K G cc nL own Ts rm) {i : Int} {v : Int32} (hd : decode cc pc = .ok (.bipush i, 2)) (hv : (Int8.ofInt i).toInt32 = v) (hn : pc + 2 = n) (k : vV K G u lv (.int v :: st) n) : vV K G u lv (st) pc := fun H locs ls hP hS hl => lv_bipush hE.1.1 hE.1.2.1 hd hv (by subst hn; exact k H locs ls hP hS hl)
theorem v_sipush (n : Nat) (hE : eV K G cc nL own Ts rm) {i : Int} {v : Int32} (hd : decode cc pc = .ok (.sipush i, 3)) (hv : (Int16.ofInt i).toInt32 = v) (hn : pc + 3 = n) (k : vV K G u lv (.int v :: st) n) : vV K G u lv (st) pc := fun H locs ls hP hS hl => lv_sipush hE.1.1 hE.1.2.1 hd hv (by subst hn; exact k H locs ls hP hS hl)
theorem v_lconst (n : Nat) (hE : eV K G cc nL own Ts rm) {i : Fin 2} {v : Int64} (hd : decode cc pc = .ok (.lconst i, 1)) (hv : Int64.ofNat (i : Nat) = v) (hn : pc + 1 = n) (k : vV K G u lv (.long v :: st) n) : vV K G u lv (st) pc := fun H locs ls hP hS hl => lv_lconst hE.1.1 hE.1.2.1 hd hv (by subst hn; exact k H locs ls hP hS hl)
theorem v_iload_n (n : Nat) (hE : eV K G cc nL own Ts rm) {j : Fin 4} {x : Int32} (hd : decode cc pc = .ok (.iload_n j, 1)) (hk : List.lookup (j : Nat) lv = some (.int x)) (hn : pc + 1 = n) (k : vV K G u lv (.int x :: st) n) : vV K G u lv st pc := fun H locs ls hP hS hl => lv_iload_n hE.1.1 hE.1.2.1 hd rfl (v_lk hl hk) (by subst hn; exact k H locs ls hP hS hl)
theorem v_iload (n : Nat) (hE : eV K G cc nL own Ts rm) {j : Nat} {x : Int32} (hd : decode cc pc = .ok (.iload j, 2)) (hk : List.lookup j lv = some (.int x)) (hn : pc + 2 = n) (k : vV K G u lv (.int x :: st) n) : vV K G u lv st pc := fun H locs ls hP hS hl => lv_iload hE.1.1 hE.1.2.1 hd (v_lk hl hk) (by subst hn; exact k H locs ls hP hS hl)
theorem v_lload_n (n : Nat) (hE : eV K G cc nL own Ts rm) {j : Fin 4} {x : Int64} (hd : decode cc pc = .ok (.lload_n j, 1)) (hk : List.lookup (j : Nat) lv = some (.long x)) (hn : pc + 1 = n) (k : vV K G u lv (.long x :: st) n) : vV K G u lv st pc := fun H locs ls hP hS hl => lv_lload_n hE.1.1 hE.1.2.1 hd rfl (v_lk hl hk) (by subst hn; exact k H locs ls hP hS hl)
theorem v_lload (n : Nat) (hE : eV K G cc nL own Ts rm) {j : Nat} {x : Int64} (hd : decode cc pc = .ok (.lload j, 2)) (hk : List.lookup j lv = some (.long x)) (hn : pc + 2 = n) (k : vV K G u lv (.long x :: st) n) : vV K G u lv st pc := fun H locs ls hP hS hl => lv_lload hE.1.1 hE.1.2.1 hd (v_lk hl hk) (by subst hn; exact k H locs ls hP hS hl)
theorem v_aload_n (n : Nat) (hE : eV K G cc nL own Ts rm) {j : Fin 4} {x : Nat} (hd : decode cc pc = .ok (.aload_n j, 1)) (hk : List.lookup (j : Nat) lv = some (.ref x)) (hn : pc + 1 = n) (k : vV K G u lv (.ref x :: st) n) : vV K G u lv st pc := fun H locs ls hP hS hl => lv_aload_n hE.1.1 hE.1.2.1 hd rfl (v_lk hl hk) (by subst hn; exact k H locs ls hP hS hl)
theorem v_aload (n : Nat) (hE : eV K G cc nL own Ts rm) {j : Nat} {x : Nat} (hd : decode cc pc = .ok (.aload j, 2)) (hk : List.lookup j lv = some (.ref x)) (hn : pc + 2 = n) (k : vV K G u lv (.ref x :: st) n) : vV K G u lv st pc := fun H locs ls hP hS hl => lv_aload hE.1.1 hE.1.2.1 hd (v_lk hl hk) (by subst hn; exact k H locs ls hP hS hl)
theorem v_istore_n (n : Nat) (hE : eV K G cc nL own Ts rm) {j : Fin 4} {i : Nat} {x : Int32} (lv' : List (Nat × Value)) (hd : decode cc pc = .ok (.istore_n j, 1)) (hi : (j : Nat) = i) (hb : i < nL) (hl' : (i, Value.int x) :: lv.filter (fun q => !(q.1 == i) && !(q.1 + 1 == i && q.2.category == 2)) = lv') (hn : pc + 1 = n) (k : vV K G u lv' st n) : vV K G u lv (.int x :: st) pc := fun H locs ls hP hS hl => lv_istore_n hE.1.1 hE.1.2.1 hd hi hl (by rw [hE.2.2.2.2.2.2.1]; exact hb) hl' (fun ls' hl2 => by subst hn; exact k H locs ls' hP hS hl2)
theorem v_istore (n : Nat) (hE : eV K G cc nL own Ts rm) {i : Nat} {x : Int32} (lv' : List (Nat × Value)) (hd : decode cc pc = .ok (.istore i, 2)) (hb : i < nL) (hl' : (i, Value.int x) :: lv.filter (fun q => !(q.1 == i) && !(q.1 + 1 == i && q.2.category == 2)) = lv') (hn : pc + 2 = n) (k : vV K G u lv' st n) : vV K G u lv (.int x :: st) pc := fun H locs ls hP hS hl => lv_istore hE.1.1 hE.1.2.1 hd hl (by rw [hE.2.2.2.2.2.2.1]; exact hb) hl' (fun ls' hl2 => by subst hn; exact k H locs ls' hP hS hl2)
theorem v_astore_n (n : Nat) (hE : eV K G cc nL own Ts rm) {j : Fin 4} {i : Nat} {x : Nat} (lv' : List (Nat × Value)) (hd : decode cc pc = .ok (.astore_n j, 1)) (hi : (j : Nat) = i) (hb : i < nL) (hl' : (i, Value.ref x) :: lv.filter (fun q => !(q.1 == i) && !(q.1 + 1 == i && q.2.category == 2)) = lv') (hn : pc + 1 = n) (k : vV K G u lv' st n) : vV K G u lv (.ref x :: st) pc := fun H locs ls hP hS hl => lv_astore_n hE.1.1 hE.1.2.1 hd hi hl (by rw [hE.2.2.2.2.2.2.1]; exact hb) hl' (fun ls' hl2 => by subst hn; exact k H locs ls' hP hS hl2)
theorem v_astore (n : Nat) (hE : eV K G cc nL own Ts rm) {i : Nat} {x : Nat} (lv' : List (Nat × Value)) (hd : decode cc pc = .ok (.astore i, 2)) (hb : i < nL) (hl' : (i, Value.ref x) :: lv.filter (fun q => !(q.1 == i) && !(q.1 + 1 == i && q.2.category == 2)) = lv') (hn : pc + 2 = n) (k : vV K G u lv' st n) : vV K G u lv (.ref x :: st) pc := fun H locs ls hP hS hl => lv_astore hE.1.1 hE.1.2.1 hd hl (by rw [hE.2.2.2.2.2.2.1]; exact hb) hl' (fun ls' hl2 => by subst hn; exact k H locs ls' hP hS hl2)
theorem v_lstore_n (n : Nat) (hE : eV K G cc nL own Ts rm) {j : Fin 4} {i : Nat} {x : Int64} (lv' : List (Nat × Value)) (hd : decode cc pc = .ok (.lstore_n j, 1)) (hi : (j : Nat) = i) (hb : i + 1 < nL) (hl' : (i, Value.long x) :: lv.filter (fun q => !(q.1 == i) && (!(q.1 == i + 1) && !(q.1 + 1 == i && q.2.category == 2))) = lv') (hn : pc + 1 = n) (k : vV K G u lv' st n) : vV K G u lv (.long x :: st) pc := fun H locs ls hP hS hl => lv_lstore_n hE.1.1 hE.1.2.1 hd hi hl (by rw [hE.2.2.2.2.2.2.1]; exact hb) hl' (fun ls' hl2 => by subst hn; exact k H locs ls' hP hS hl2)
theorem v_lstore (n : Nat) (hE : eV K G cc nL own Ts rm) {i : Nat} {x : Int64} (lv' : List (Nat × Value)) (hd : decode cc pc = .ok (.lstore i, 2)) (hb : i + 1 < nL) (hl' : (i, Value.long x) :: lv.filter (fun q => !(q.1 == i) && (!(q.1 == i + 1) && !(q.1 + 1 == i && q.2.category == 2))) = lv') (hn : pc + 2 = n) (k : vV K G u lv' st n) : vV K G u lv (.long x :: st) pc := fun H locs ls hP hS hl => lv_lstore hE.1.1 hE.1.2.1 hd hl (by rw [hE.2.2.2.2.2.2.1]; exact hb) hl' (fun ls' hl2 => by subst hn; exact k H locs ls' hP hS hl2)
theorem v_pl {l : List (Nat × Value)} {i : Nat} {v : Value} (hk : List.lookup i l = some v) : ∃ k : Nat, l[k]? = some (i, v) := by
  induction l with
  | nil => cases hk
  | cons q t ih =>
    obtain ⟨a, b⟩ := q
    simp only [List.lookup] at hk
    split at hk
    next e =>
      rw [beq_iff_eq] at e
      cases hk
      subst e
      exact ⟨0, rfl⟩
    next e =>
      obtain ⟨k, hk⟩ := ih hk
      exact ⟨k + 1, hk⟩
theorem v_iinc (n : Nat) (hE : eV K G cc nL own Ts rm) {i : Nat} {z : Int} {x v : Int32} (lv' : List (Nat × Value)) (hd : decode cc pc = .ok (.iinc i z, 3)) (hk : List.lookup i lv = some (.int x)) (hv : x + Int32.ofInt z = v) (hb : i < nL) (hl' : (i, Value.int v) :: lv.filter (fun q => !(q.1 == i) && !(q.1 + 1 == i && q.2.category == 2)) = lv') (hn : pc + 3 = n) (k : vV K G u lv' st n) : vV K G u lv st pc := by
  intro H locs ls hP hS hl
  obtain ⟨k9, hk9⟩ := v_pl hk
  exact lv_iinc hE.1.1 hE.1.2.1 hd hl hk9 hv (by rw [hE.2.2.2.2.2.2.1]; exact hb) hl' (fun ls' hl2 => by subst hn; exact k H locs ls' hP hS hl2)
theorem v_iincN (n : Nat) (hE : eV K G cc nL own Ts rm) {i j : Nat} (lv' : List (Nat × Value)) (hd : decode cc pc = .ok (.iinc i 1, 3)) (hk : List.lookup i lv = some (.int (nI j))) (hb : i < nL) (hl' : (i, Value.int (nI (j + 1))) :: lv.filter (fun q => !(q.1 == i) && !(q.1 + 1 == i && q.2.category == 2)) = lv') (hn : pc + 3 = n) (k : vV K G u lv' st n) : vV K G u lv st pc := v_iinc n hE lv' hd hk (nI_1 j) hb hl' hn k
theorem v_iadd (n : Nat) (hE : eV K G cc nL own Ts rm) {x y : Int32} (hd : decode cc pc = .ok (.iadd, 1))  (hn : pc + 1 = n) (k : vV K G u lv (.int (x + y) :: st) n) : vV K G u lv (.int y :: .int x :: st) pc := fun H locs ls hP hS hl => lv_iadd hE.1.1 hE.1.2.1 hd  (by subst hn; exact k H locs ls hP hS hl)
theorem v_isub (n : Nat) (hE : eV K G cc nL own Ts rm) {x y : Int32} (hd : decode cc pc = .ok (.isub, 1))  (hn : pc + 1 = n) (k : vV K G u lv (.int (x - y) :: st) n) : vV K G u lv (.int y :: .int x :: st) pc := fun H locs ls hP hS hl => lv_isub hE.1.1 hE.1.2.1 hd  (by subst hn; exact k H locs ls hP hS hl)
theorem v_imul (n : Nat) (hE : eV K G cc nL own Ts rm) {x y : Int32} (hd : decode cc pc = .ok (.imul, 1))  (hn : pc + 1 = n) (k : vV K G u lv (.int (x * y) :: st) n) : vV K G u lv (.int y :: .int x :: st) pc := fun H locs ls hP hS hl => lv_imul hE.1.1 hE.1.2.1 hd  (by subst hn; exact k H locs ls hP hS hl)
theorem v_iand (n : Nat) (hE : eV K G cc nL own Ts rm) {x y : Int32} (hd : decode cc pc = .ok (.iand, 1))  (hn : pc + 1 = n) (k : vV K G u lv (.int (x &&& y) :: st) n) : vV K G u lv (.int y :: .int x :: st) pc := fun H locs ls hP hS hl => lv_iand hE.1.1 hE.1.2.1 hd  (by subst hn; exact k H locs ls hP hS hl)
theorem v_ior (n : Nat) (hE : eV K G cc nL own Ts rm) {x y : Int32} (hd : decode cc pc = .ok (.ior, 1))  (hn : pc + 1 = n) (k : vV K G u lv (.int (x ||| y) :: st) n) : vV K G u lv (.int y :: .int x :: st) pc := fun H locs ls hP hS hl => lv_ior hE.1.1 hE.1.2.1 hd  (by subst hn; exact k H locs ls hP hS hl)
theorem v_ishl (n : Nat) (hE : eV K G cc nL own Ts rm) {x y : Int32} (hd : decode cc pc = .ok (.ishl, 1))  (hn : pc + 1 = n) (k : vV K G u lv (.int (x <<< (y &&& 31)) :: st) n) : vV K G u lv (.int y :: .int x :: st) pc := fun H locs ls hP hS hl => lv_ishl hE.1.1 hE.1.2.1 hd  (by subst hn; exact k H locs ls hP hS hl)
theorem v_ishr (n : Nat) (hE : eV K G cc nL own Ts rm) {x y : Int32} (hd : decode cc pc = .ok (.ishr, 1))  (hn : pc + 1 = n) (k : vV K G u lv (.int (x >>> (y &&& 31)) :: st) n) : vV K G u lv (.int y :: .int x :: st) pc := fun H locs ls hP hS hl => lv_ishr hE.1.1 hE.1.2.1 hd  (by subst hn; exact k H locs ls hP hS hl)
theorem v_ladd (n : Nat) (hE : eV K G cc nL own Ts rm) {x y : Int64} (hd : decode cc pc = .ok (.ladd, 1))  (hn : pc + 1 = n) (k : vV K G u lv (.long (x + y) :: st) n) : vV K G u lv (.long y :: .long x :: st) pc := fun H locs ls hP hS hl => lv_ladd hE.1.1 hE.1.2.1 hd  (by subst hn; exact k H locs ls hP hS hl)
theorem v_lsub (n : Nat) (hE : eV K G cc nL own Ts rm) {x y : Int64} (hd : decode cc pc = .ok (.lsub, 1))  (hn : pc + 1 = n) (k : vV K G u lv (.long (x - y) :: st) n) : vV K G u lv (.long y :: .long x :: st) pc := fun H locs ls hP hS hl => lv_lsub hE.1.1 hE.1.2.1 hd  (by subst hn; exact k H locs ls hP hS hl)
theorem v_lmul (n : Nat) (hE : eV K G cc nL own Ts rm) {x y : Int64} (hd : decode cc pc = .ok (.lmul, 1))  (hn : pc + 1 = n) (k : vV K G u lv (.long (x * y) :: st) n) : vV K G u lv (.long y :: .long x :: st) pc := fun H locs ls hP hS hl => lv_lmul hE.1.1 hE.1.2.1 hd  (by subst hn; exact k H locs ls hP hS hl)
theorem v_idiv (n : Nat) (hE : eV K G cc nL own Ts rm) {x y : Int32} (hd : decode cc pc = .ok (.idiv, 1)) (hz : ¬ y = 0) (hn : pc + 1 = n) (k : vV K G u lv (.int (x / y) :: st) n) : vV K G u lv (.int y :: .int x :: st) pc := fun H locs ls hP hS hl => lv_idiv hE.1.1 hE.1.2.1 hd hz (by subst hn; exact k H locs ls hP hS hl)
theorem v_irem (n : Nat) (hE : eV K G cc nL own Ts rm) {x y : Int32} (hd : decode cc pc = .ok (.irem, 1)) (hz : ¬ y = 0) (hn : pc + 1 = n) (k : vV K G u lv (.int (x - x / y * y) :: st) n) : vV K G u lv (.int y :: .int x :: st) pc := fun H locs ls hP hS hl => lv_irem hE.1.1 hE.1.2.1 hd hz (by subst hn; exact k H locs ls hP hS hl)
theorem v_ldiv (n : Nat) (hE : eV K G cc nL own Ts rm) {x y : Int64} (hd : decode cc pc = .ok (.ldiv, 1)) (hz : ¬ y = 0) (hn : pc + 1 = n) (k : vV K G u lv (.long (x / y) :: st) n) : vV K G u lv (.long y :: .long x :: st) pc := fun H locs ls hP hS hl => lv_ldiv hE.1.1 hE.1.2.1 hd hz (by subst hn; exact k H locs ls hP hS hl)
theorem v_lrem (n : Nat) (hE : eV K G cc nL own Ts rm) {x y : Int64} (hd : decode cc pc = .ok (.lrem, 1)) (hz : ¬ y = 0) (hn : pc + 1 = n) (k : vV K G u lv (.long (x - x / y * y) :: st) n) : vV K G u lv (.long y :: .long x :: st) pc := fun H locs ls hP hS hl => lv_lrem hE.1.1 hE.1.2.1 hd hz (by subst hn; exact k H locs ls hP hS hl)
theorem v_lneg (n : Nat) (hE : eV K G cc nL own Ts rm) {x : Int64} (hd : decode cc pc = .ok (.lneg, 1))  (hn : pc + 1 = n) (k : vV K G u lv (.long (-x) :: st) n) : vV K G u lv (.long x :: st) pc := fun H locs ls hP hS hl => lv_lneg hE.1.1 hE.1.2.1 hd  (by subst hn; exact k H locs ls hP hS hl)
theorem v_i2l (n : Nat) (hE : eV K G cc nL own Ts rm) {x : Int32} (hd : decode cc pc = .ok (.i2l, 1))  (hn : pc + 1 = n) (k : vV K G u lv (.long x.toInt64 :: st) n) : vV K G u lv (.int x :: st) pc := fun H locs ls hP hS hl => lv_i2l hE.1.1 hE.1.2.1 hd rfl (by subst hn; exact k H locs ls hP hS hl)
theorem v_dup (n : Nat) (hE : eV K G cc nL own Ts rm) {a : Value} (hd : decode cc pc = .ok (.dup, 1)) (ha : a.category = 1) (hn : pc + 1 = n) (k : vV K G u lv (a :: a :: st) n) : vV K G u lv (a :: st) pc := fun H locs ls hP hS hl => lv_dup hE.1.1 hE.1.2.1 hd ha (by subst hn; exact k H locs ls hP hS hl)
theorem v_dup2 (n : Nat) (hE : eV K G cc nL own Ts rm) {a b : Value} (hd : decode cc pc = .ok (.dup2, 1)) (ha : a.category = 1) (hb : b.category = 1) (hn : pc + 1 = n) (k : vV K G u lv (a :: b :: a :: b :: st) n) : vV K G u lv (a :: b :: st) pc := fun H locs ls hP hS hl => lv_dup2_11 hE.1.1 hE.1.2.1 hd ha hb (by subst hn; exact k H locs ls hP hS hl)
theorem v_iaddN (n : Nat) (hE : eV K G cc nL own Ts rm) {x y : Nat} (hd : decode cc pc = .ok (.iadd, 1)) (hn : pc + 1 = n) (k : vV K G u lv (.int (nI (x + y)) :: st) n) : vV K G u lv (.int (nI y) :: .int (nI x) :: st) pc := v_iadd n hE hd hn (by rw [nI_add]; exact k)
theorem v_imulN (n : Nat) (hE : eV K G cc nL own Ts rm) {x y : Nat} (hd : decode cc pc = .ok (.imul, 1)) (hn : pc + 1 = n) (k : vV K G u lv (.int (nI (x * y)) :: st) n) : vV K G u lv (.int (nI y) :: .int (nI x) :: st) pc := v_imul n hE hd hn (by rw [pk_mul]; exact k)
theorem v_isubN (n : Nat) (hE : eV K G cc nL own Ts rm) {x y : Nat} (hd : decode cc pc = .ok (.isub, 1)) (hle : y ≤ x) (hn : pc + 1 = n) (k : vV K G u lv (.int (nI (x - y)) :: st) n) : vV K G u lv (.int (nI y) :: .int (nI x) :: st) pc := v_isub n hE hd hn (by rw [pk_sub hle]; exact k)
theorem v_idivN (n : Nat) (hE : eV K G cc nL own Ts rm) {x y : Nat} (hd : decode cc pc = .ok (.idiv, 1)) (hx : x < 2 ^ 31) (h0 : 0 < y) (hy : y < 2 ^ 31) (hn : pc + 1 = n) (k : vV K G u lv (.int (nI (x / y)) :: st) n) : vV K G u lv (.int (nI y) :: .int (nI x) :: st) pc := v_idiv n hE hd (nI_ne0 h0 hy) hn (by rw [pk_div hx h0 hy]; exact k)
theorem v_iremN (n : Nat) (hE : eV K G cc nL own Ts rm) {x y : Nat} (hd : decode cc pc = .ok (.irem, 1)) (hx : x < 2 ^ 31) (h0 : 0 < y) (hy : y < 2 ^ 31) (hn : pc + 1 = n) (k : vV K G u lv (.int (nI (x % y)) :: st) n) : vV K G u lv (.int (nI y) :: .int (nI x) :: st) pc := v_irem n hE hd (nI_ne0 h0 hy) hn (by rw [pk_rem hx h0 hy]; exact k)
theorem v_if_eq (n : Nat) (hE : eV K G cc nL own Ts rm) {x : Int32} {off : Int} (tgt : Nat) (hd : decode cc pc = .ok (.ifCond .eq off, 3)) (ht : (pc : Int) + off = (tgt : Int)) (hn : pc + 3 = n) (kt : x = 0 → vV K G u lv st tgt) (kf : ¬ x = 0 → vV K G u lv st n) : vV K G u lv (.int x :: st) pc := fun H locs ls hP hS hl => lv_if_eq hE.1.1 hE.1.2.1 hd ht (fun h => kt h H locs ls hP hS hl) (fun h => by subst hn; exact kf h H locs ls hP hS hl)
theorem v_ic_eq (n : Nat) (hE : eV K G cc nL own Ts rm) {x y : Int32} {off : Int} (tgt : Nat) (hd : decode cc pc = .ok (.if_icmp .eq off, 3)) (ht : (pc : Int) + off = (tgt : Int)) (hn : pc + 3 = n) (kt : x = y → vV K G u lv st tgt) (kf : ¬ x = y → vV K G u lv st n) : vV K G u lv (.int y :: .int x :: st) pc := fun H locs ls hP hS hl => lv_icmp_eq hE.1.1 hE.1.2.1 hd ht (fun h => kt h H locs ls hP hS hl) (fun h => by subst hn; exact kf h H locs ls hP hS hl)
theorem v_if_ne (n : Nat) (hE : eV K G cc nL own Ts rm) {x : Int32} {off : Int} (tgt : Nat) (hd : decode cc pc = .ok (.ifCond .ne off, 3)) (ht : (pc : Int) + off = (tgt : Int)) (hn : pc + 3 = n) (kt : ¬ x = 0 → vV K G u lv st tgt) (kf : x = 0 → vV K G u lv st n) : vV K G u lv (.int x :: st) pc := fun H locs ls hP hS hl => lv_if_ne hE.1.1 hE.1.2.1 hd ht (fun h => kt h H locs ls hP hS hl) (fun h => by subst hn; exact kf h H locs ls hP hS hl)
theorem v_ic_ne (n : Nat) (hE : eV K G cc nL own Ts rm) {x y : Int32} {off : Int} (tgt : Nat) (hd : decode cc pc = .ok (.if_icmp .ne off, 3)) (ht : (pc : Int) + off = (tgt : Int)) (hn : pc + 3 = n) (kt : ¬ x = y → vV K G u lv st tgt) (kf : x = y → vV K G u lv st n) : vV K G u lv (.int y :: .int x :: st) pc := fun H locs ls hP hS hl => lv_icmp_ne hE.1.1 hE.1.2.1 hd ht (fun h => kt h H locs ls hP hS hl) (fun h => by subst hn; exact kf h H locs ls hP hS hl)
theorem v_if_lt (n : Nat) (hE : eV K G cc nL own Ts rm) {x : Int32} {off : Int} (tgt : Nat) (hd : decode cc pc = .ok (.ifCond .lt off, 3)) (ht : (pc : Int) + off = (tgt : Int)) (hn : pc + 3 = n) (kt : x < 0 → vV K G u lv st tgt) (kf : ¬ x < 0 → vV K G u lv st n) : vV K G u lv (.int x :: st) pc := fun H locs ls hP hS hl => lv_if_lt hE.1.1 hE.1.2.1 hd ht (fun h => kt h H locs ls hP hS hl) (fun h => by subst hn; exact kf h H locs ls hP hS hl)
theorem v_ic_lt (n : Nat) (hE : eV K G cc nL own Ts rm) {x y : Int32} {off : Int} (tgt : Nat) (hd : decode cc pc = .ok (.if_icmp .lt off, 3)) (ht : (pc : Int) + off = (tgt : Int)) (hn : pc + 3 = n) (kt : x < y → vV K G u lv st tgt) (kf : ¬ x < y → vV K G u lv st n) : vV K G u lv (.int y :: .int x :: st) pc := fun H locs ls hP hS hl => lv_icmp_lt hE.1.1 hE.1.2.1 hd ht (fun h => kt h H locs ls hP hS hl) (fun h => by subst hn; exact kf h H locs ls hP hS hl)
theorem v_if_ge (n : Nat) (hE : eV K G cc nL own Ts rm) {x : Int32} {off : Int} (tgt : Nat) (hd : decode cc pc = .ok (.ifCond .ge off, 3)) (ht : (pc : Int) + off = (tgt : Int)) (hn : pc + 3 = n) (kt : 0 ≤ x → vV K G u lv st tgt) (kf : ¬ 0 ≤ x → vV K G u lv st n) : vV K G u lv (.int x :: st) pc := fun H locs ls hP hS hl => lv_if_ge hE.1.1 hE.1.2.1 hd ht (fun h => kt h H locs ls hP hS hl) (fun h => by subst hn; exact kf h H locs ls hP hS hl)
theorem v_ic_ge (n : Nat) (hE : eV K G cc nL own Ts rm) {x y : Int32} {off : Int} (tgt : Nat) (hd : decode cc pc = .ok (.if_icmp .ge off, 3)) (ht : (pc : Int) + off = (tgt : Int)) (hn : pc + 3 = n) (kt : y ≤ x → vV K G u lv st tgt) (kf : ¬ y ≤ x → vV K G u lv st n) : vV K G u lv (.int y :: .int x :: st) pc := fun H locs ls hP hS hl => lv_icmp_ge hE.1.1 hE.1.2.1 hd ht (fun h => kt h H locs ls hP hS hl) (fun h => by subst hn; exact kf h H locs ls hP hS hl)
theorem v_if_gt (n : Nat) (hE : eV K G cc nL own Ts rm) {x : Int32} {off : Int} (tgt : Nat) (hd : decode cc pc = .ok (.ifCond .gt off, 3)) (ht : (pc : Int) + off = (tgt : Int)) (hn : pc + 3 = n) (kt : 0 < x → vV K G u lv st tgt) (kf : ¬ 0 < x → vV K G u lv st n) : vV K G u lv (.int x :: st) pc := fun H locs ls hP hS hl => lv_if_gt hE.1.1 hE.1.2.1 hd ht (fun h => kt h H locs ls hP hS hl) (fun h => by subst hn; exact kf h H locs ls hP hS hl)
theorem v_ic_gt (n : Nat) (hE : eV K G cc nL own Ts rm) {x y : Int32} {off : Int} (tgt : Nat) (hd : decode cc pc = .ok (.if_icmp .gt off, 3)) (ht : (pc : Int) + off = (tgt : Int)) (hn : pc + 3 = n) (kt : y < x → vV K G u lv st tgt) (kf : ¬ y < x → vV K G u lv st n) : vV K G u lv (.int y :: .int x :: st) pc := fun H locs ls hP hS hl => lv_icmp_gt hE.1.1 hE.1.2.1 hd ht (fun h => kt h H locs ls hP hS hl) (fun h => by subst hn; exact kf h H locs ls hP hS hl)
theorem v_if_le (n : Nat) (hE : eV K G cc nL own Ts rm) {x : Int32} {off : Int} (tgt : Nat) (hd : decode cc pc = .ok (.ifCond .le off, 3)) (ht : (pc : Int) + off = (tgt : Int)) (hn : pc + 3 = n) (kt : x ≤ 0 → vV K G u lv st tgt) (kf : ¬ x ≤ 0 → vV K G u lv st n) : vV K G u lv (.int x :: st) pc := fun H locs ls hP hS hl => lv_if_le hE.1.1 hE.1.2.1 hd ht (fun h => kt h H locs ls hP hS hl) (fun h => by subst hn; exact kf h H locs ls hP hS hl)
theorem v_ic_le (n : Nat) (hE : eV K G cc nL own Ts rm) {x y : Int32} {off : Int} (tgt : Nat) (hd : decode cc pc = .ok (.if_icmp .le off, 3)) (ht : (pc : Int) + off = (tgt : Int)) (hn : pc + 3 = n) (kt : x ≤ y → vV K G u lv st tgt) (kf : ¬ x ≤ y → vV K G u lv st n) : vV K G u lv (.int y :: .int x :: st) pc := fun H locs ls hP hS hl => lv_icmp_le hE.1.1 hE.1.2.1 hd ht (fun h => kt h H locs ls hP hS hl) (fun h => by subst hn; exact kf h H locs ls hP hS hl)
theorem v_ic_eqN (n : Nat) (hE : eV K G cc nL own Ts rm) {x y : Nat} {off : Int} (tgt : Nat) (hd : decode cc pc = .ok (.if_icmp .eq off, 3)) (ht : (pc : Int) + off = (tgt : Int)) (hx : x < 2 ^ 31) (hy : y < 2 ^ 31) (hn : pc + 3 = n) (kt : x = y → vV K G u lv st tgt) (kf : ¬ x = y → vV K G u lv st n) : vV K G u lv (.int (nI y) :: .int (nI x) :: st) pc := by
  have h := nI_eq hx hy
  exact v_ic_eq n hE tgt hd ht hn (fun q => kt (h.mp q)) (fun q => kf (fun z => q (h.mpr z)))
theorem v_ic_neN (n : Nat) (hE : eV K G cc nL own Ts rm) {x y : Nat} {off : Int} (tgt : Nat) (hd : decode cc pc = .ok (.if_icmp .ne off, 3)) (ht : (pc : Int) + off = (tgt : Int)) (hx : x < 2 ^ 31) (hy : y < 2 ^ 31) (hn : pc + 3 = n) (kt : ¬ x = y → vV K G u lv st tgt) (kf : x = y → vV K G u lv st n) : vV K G u lv (.int (nI y) :: .int (nI x) :: st) pc := by
  have h := nI_eq hx hy
  exact v_ic_ne n hE tgt hd ht hn (fun q => kt (fun z => q (h.mpr z))) (fun q => kf (h.mp q))
theorem v_ic_ltN (n : Nat) (hE : eV K G cc nL own Ts rm) {x y : Nat} {off : Int} (tgt : Nat) (hd : decode cc pc = .ok (.if_icmp .lt off, 3)) (ht : (pc : Int) + off = (tgt : Int)) (hx : x < 2 ^ 31) (hy : y < 2 ^ 31) (hn : pc + 3 = n) (kt : x < y → vV K G u lv st tgt) (kf : y ≤ x → vV K G u lv st n) : vV K G u lv (.int (nI y) :: .int (nI x) :: st) pc := by
  have h := nI_ltI hx hy
  exact v_ic_lt n hE tgt hd ht hn (fun q => kt (h.mp q)) (fun q => kf (Nat.not_lt.mp (fun z => q (h.mpr z))))
theorem v_ic_geN (n : Nat) (hE : eV K G cc nL own Ts rm) {x y : Nat} {off : Int} (tgt : Nat) (hd : decode cc pc = .ok (.if_icmp .ge off, 3)) (ht : (pc : Int) + off = (tgt : Int)) (hx : x < 2 ^ 31) (hy : y < 2 ^ 31) (hn : pc + 3 = n) (kt : y ≤ x → vV K G u lv st tgt) (kf : x < y → vV K G u lv st n) : vV K G u lv (.int (nI y) :: .int (nI x) :: st) pc := by
  have h := nI_leI hy hx
  exact v_ic_ge n hE tgt hd ht hn (fun q => kt (h.mp q)) (fun q => kf (Nat.not_le.mp (fun z => q (h.mpr z))))
theorem v_ic_gtN (n : Nat) (hE : eV K G cc nL own Ts rm) {x y : Nat} {off : Int} (tgt : Nat) (hd : decode cc pc = .ok (.if_icmp .gt off, 3)) (ht : (pc : Int) + off = (tgt : Int)) (hx : x < 2 ^ 31) (hy : y < 2 ^ 31) (hn : pc + 3 = n) (kt : y < x → vV K G u lv st tgt) (kf : x ≤ y → vV K G u lv st n) : vV K G u lv (.int (nI y) :: .int (nI x) :: st) pc := by
  have h := nI_ltI hy hx
  exact v_ic_gt n hE tgt hd ht hn (fun q => kt (h.mp q)) (fun q => kf (Nat.not_lt.mp (fun z => q (h.mpr z))))
theorem v_ic_leN (n : Nat) (hE : eV K G cc nL own Ts rm) {x y : Nat} {off : Int} (tgt : Nat) (hd : decode cc pc = .ok (.if_icmp .le off, 3)) (ht : (pc : Int) + off = (tgt : Int)) (hx : x < 2 ^ 31) (hy : y < 2 ^ 31) (hn : pc + 3 = n) (kt : x ≤ y → vV K G u lv st tgt) (kf : y < x → vV K G u lv st n) : vV K G u lv (.int (nI y) :: .int (nI x) :: st) pc := by
  have h := nI_leI hx hy
  exact v_ic_le n hE tgt hd ht hn (fun q => kt (h.mp q)) (fun q => kf (Nat.not_le.mp (fun z => q (h.mpr z))))
theorem nI_eq0 {x : Nat} (hx : x < 2 ^ 31) : nI x = 0 ↔ x = 0 := by rw [← nI_0]; exact nI_eq hx (by decide)
theorem nI_gt0 {x : Nat} (hx : x < 2 ^ 31) : 0 < nI x ↔ 0 < x := by rw [← nI_0]; exact nI_ltI (by decide) hx
theorem nI_le0 {x : Nat} (hx : x < 2 ^ 31) : nI x ≤ 0 ↔ x = 0 := by rw [← nI_0, nI_leI hx (by decide)]; omega
theorem v_if_eqN (n : Nat) (hE : eV K G cc nL own Ts rm) {x : Nat} {off : Int} (tgt : Nat) (hd : decode cc pc = .ok (.ifCond .eq off, 3)) (ht : (pc : Int) + off = (tgt : Int)) (hx : x < 2 ^ 31) (hn : pc + 3 = n) (kt : x = 0 → vV K G u lv st tgt) (kf : ¬ x = 0 → vV K G u lv st n) : vV K G u lv (.int (nI x) :: st) pc := by
  have h := nI_eq0 hx
  exact v_if_eq n hE tgt hd ht hn (fun q => kt (h.mp q)) (fun q => kf (fun z => q (h.mpr z)))
theorem v_if_neN (n : Nat) (hE : eV K G cc nL own Ts rm) {x : Nat} {off : Int} (tgt : Nat) (hd : decode cc pc = .ok (.ifCond .ne off, 3)) (ht : (pc : Int) + off = (tgt : Int)) (hx : x < 2 ^ 31) (hn : pc + 3 = n) (kt : ¬ x = 0 → vV K G u lv st tgt) (kf : x = 0 → vV K G u lv st n) : vV K G u lv (.int (nI x) :: st) pc := by
  have h := nI_eq0 hx
  exact v_if_ne n hE tgt hd ht hn (fun q => kt (fun z => q (h.mpr z))) (fun q => kf (h.mp q))
theorem v_if_leN (n : Nat) (hE : eV K G cc nL own Ts rm) {x : Nat} {off : Int} (tgt : Nat) (hd : decode cc pc = .ok (.ifCond .le off, 3)) (ht : (pc : Int) + off = (tgt : Int)) (hx : x < 2 ^ 31) (hn : pc + 3 = n) (kt : x = 0 → vV K G u lv st tgt) (kf : 0 < x → vV K G u lv st n) : vV K G u lv (.int (nI x) :: st) pc := by
  have h := nI_le0 hx
  exact v_if_le n hE tgt hd ht hn (fun q => kt (h.mp q)) (fun q => kf (Nat.pos_of_ne_zero (fun z => q (h.mpr z))))
theorem v_if_gtN (n : Nat) (hE : eV K G cc nL own Ts rm) {x : Nat} {off : Int} (tgt : Nat) (hd : decode cc pc = .ok (.ifCond .gt off, 3)) (ht : (pc : Int) + off = (tgt : Int)) (hx : x < 2 ^ 31) (hn : pc + 3 = n) (kt : 0 < x → vV K G u lv st tgt) (kf : x = 0 → vV K G u lv st n) : vV K G u lv (.int (nI x) :: st) pc := by
  have h := nI_gt0 hx
  exact v_if_gt n hE tgt hd ht hn (fun q => kt (h.mp q)) (fun q => kf (Nat.eq_zero_of_not_pos (fun z => q (h.mpr z))))
theorem v_if_eqB (n : Nat) (hE : eV K G cc nL own Ts rm) {b : Bool} {off : Int} (tgt : Nat) (hd : decode cc pc = .ok (.ifCond .eq off, 3)) (ht : (pc : Int) + off = (tgt : Int)) (hn : pc + 3 = n) (kt : b = false → vV K G u lv st tgt) (kf : b = true → vV K G u lv st n) : vV K G u lv (.int (bI b) :: st) pc := v_if_eq n hE tgt hd ht hn (fun q => kt (bI_0.mp q)) (fun q => kf (by cases b; exact absurd rfl q; rfl))
theorem v_if_neB (n : Nat) (hE : eV K G cc nL own Ts rm) {b : Bool} {off : Int} (tgt : Nat) (hd : decode cc pc = .ok (.ifCond .ne off, 3)) (ht : (pc : Int) + off = (tgt : Int)) (hn : pc + 3 = n) (kt : b = true → vV K G u lv st tgt) (kf : b = false → vV K G u lv st n) : vV K G u lv (.int (bI b) :: st) pc := v_if_ne n hE tgt hd ht hn (fun q => kt (by cases b; exact absurd rfl q; rfl)) (fun q => kf (bI_0.mp q))
theorem v_lcmp (n : Nat) (hE : eV K G cc nL own Ts rm) {x y : Int64} (hd : decode cc pc = .ok (.lcmp, 1)) (hn : pc + 1 = n) (k : vV K G u lv (.int (lg_cmp x y) :: st) n) : vV K G u lv (.long y :: .long x :: st) pc := fun H locs ls hP hS hl => W.lcmp hE.1.1 hE.1.2.1 hd (by subst hn; exact k H locs ls hP hS hl)
theorem v_lc_eq (n1 n : Nat) (hE : eV K G cc nL own Ts rm) {x y : Int64} {off : Int} (tgt : Nat) (hd1 : decode cc pc = .ok (.lcmp, 1)) (hd : decode cc n1 = .ok (.ifCond .eq off, 3)) (ht : (n1 : Int) + off = (tgt : Int)) (hn1 : pc + 1 = n1) (hn : n1 + 3 = n) (kt : x = y → vV K G u lv st tgt) (kf : ¬ x = y → vV K G u lv st n) : vV K G u lv (.long y :: .long x :: st) pc := by
  have h := lg_cmp_eq x y
  exact v_lcmp n1 hE hd1 hn1 (v_if_eq n hE tgt hd ht hn (fun q => kt (h.mp q)) (fun q => kf (fun z => q (h.mpr z))))
theorem v_lc_ne (n1 n : Nat) (hE : eV K G cc nL own Ts rm) {x y : Int64} {off : Int} (tgt : Nat) (hd1 : decode cc pc = .ok (.lcmp, 1)) (hd : decode cc n1 = .ok (.ifCond .ne off, 3)) (ht : (n1 : Int) + off = (tgt : Int)) (hn1 : pc + 1 = n1) (hn : n1 + 3 = n) (kt : ¬ x = y → vV K G u lv st tgt) (kf : x = y → vV K G u lv st n) : vV K G u lv (.long y :: .long x :: st) pc := by
  have h := lg_cmp_eq x y
  exact v_lcmp n1 hE hd1 hn1 (v_if_ne n hE tgt hd ht hn (fun q => kt (fun z => q (h.mpr z))) (fun q => kf (h.mp q)))
theorem v_lc_lt (n1 n : Nat) (hE : eV K G cc nL own Ts rm) {x y : Int64} {off : Int} (tgt : Nat) (hd1 : decode cc pc = .ok (.lcmp, 1)) (hd : decode cc n1 = .ok (.ifCond .lt off, 3)) (ht : (n1 : Int) + off = (tgt : Int)) (hn1 : pc + 1 = n1) (hn : n1 + 3 = n) (kt : x < y → vV K G u lv st tgt) (kf : ¬ x < y → vV K G u lv st n) : vV K G u lv (.long y :: .long x :: st) pc := by
  have h := lg_cmp_lt x y
  exact v_lcmp n1 hE hd1 hn1 (v_if_lt n hE tgt hd ht hn (fun q => kt (h.mp q)) (fun q => kf (fun z => q (h.mpr z))))
theorem v_lc_ge (n1 n : Nat) (hE : eV K G cc nL own Ts rm) {x y : Int64} {off : Int} (tgt : Nat) (hd1 : decode cc pc = .ok (.lcmp, 1)) (hd : decode cc n1 = .ok (.ifCond .ge off, 3)) (ht : (n1 : Int) + off = (tgt : Int)) (hn1 : pc + 1 = n1) (hn : n1 + 3 = n) (kt : y ≤ x → vV K G u lv st tgt) (kf : ¬ y ≤ x → vV K G u lv st n) : vV K G u lv (.long y :: .long x :: st) pc := by
  have h := lg_cmp_ge x y
  exact v_lcmp n1 hE hd1 hn1 (v_if_ge n hE tgt hd ht hn (fun q => kt (h.mp q)) (fun q => kf (fun z => q (h.mpr z))))
theorem v_lc_gt (n1 n : Nat) (hE : eV K G cc nL own Ts rm) {x y : Int64} {off : Int} (tgt : Nat) (hd1 : decode cc pc = .ok (.lcmp, 1)) (hd : decode cc n1 = .ok (.ifCond .gt off, 3)) (ht : (n1 : Int) + off = (tgt : Int)) (hn1 : pc + 1 = n1) (hn : n1 + 3 = n) (kt : y < x → vV K G u lv st tgt) (kf : ¬ y < x → vV K G u lv st n) : vV K G u lv (.long y :: .long x :: st) pc := by
  have h := lg_cmp_gt x y
  exact v_lcmp n1 hE hd1 hn1 (v_if_gt n hE tgt hd ht hn (fun q => kt (h.mp q)) (fun q => kf (fun z => q (h.mpr z))))
theorem v_lc_le (n1 n : Nat) (hE : eV K G cc nL own Ts rm) {x y : Int64} {off : Int} (tgt : Nat) (hd1 : decode cc pc = .ok (.lcmp, 1)) (hd : decode cc n1 = .ok (.ifCond .le off, 3)) (ht : (n1 : Int) + off = (tgt : Int)) (hn1 : pc + 1 = n1) (hn : n1 + 3 = n) (kt : x ≤ y → vV K G u lv st tgt) (kf : ¬ x ≤ y → vV K G u lv st n) : vV K G u lv (.long y :: .long x :: st) pc := by
  have h := lg_cmp_le x y
  exact v_lcmp n1 hE hd1 hn1 (v_if_le n hE tgt hd ht hn (fun q => kt (h.mp q)) (fun q => kf (fun z => q (h.mpr z))))
theorem v_goto (hE : eV K G cc nL own Ts rm) {off : Int} (tgt : Nat) (hd : decode cc pc = .ok (.goto off, 3)) (ht : (pc : Int) + off = (tgt : Int)) (k : vV K G u lv st tgt) : vV K G u lv st pc := fun H locs ls hP hS hl => lv_goto hE.1.1 hE.1.2.1 hd ht (k H locs ls hP hS hl)
theorem v_ldc (n : Nat) (hE : eV K G cc nL own Ts rm) {index : Nat} {v : Int32} (hc : Jvm.Cond.constant own index v ∈ Ts) (hd : decode cc pc = .ok (.ldc index, 2)) (hn : pc + 2 = n) (k : vV K G u lv (.int v :: st) n) : vV K G u lv st pc := fun H locs ls hP hS hl => lv_ldc hE.1.1 hE.1.2.1 hE.1.2.2.2.1 (hE.1.2.2.2.2 _ hc) hd (by subst hn; exact k H locs ls hP hS hl)
theorem v_ldc2 (n : Nat) (hE : eV K G cc nL own Ts rm) {index : Nat} {v : Int64} (hc : Jvm.Cond.constantLong own index v ∈ Ts) (hd : decode cc pc = .ok (.ldc2_w index, 3)) (hn : pc + 3 = n) (k : vV K G u lv (.long v :: st) n) : vV K G u lv st pc := fun H locs ls hP hS hl => lv_ldc2 hE.1.1 hE.1.2.1 hE.1.2.2.2.1 (hE.1.2.2.2.2 _ hc) hd (by subst hn; exact k H locs ls hP hS hl)
theorem v_get (n : Nat) (hE : eV K G cc nL own Ts rm) {ref C : String} {T : u_T} {N ci index a : Nat} (hin : ∀ w ∈ u_ws C T N, w ∈ Ts) (q0 : Nat) {fs : List Value} (he : (G.2.2.2 u)[q0]? = some (a, .inr (ci, fs))) (hc : vwCl[ci]? = some (C, T, N)) (j : Nat) (hj : j < N) (hlink : Cond.fieldLink own index ref (T j).2.1 (T j).2.2.1 ∈ Ts) (href : (T j).1 = ref) {v : Value} (hv : fs[j]? = some v) (hd : decode cc pc = .ok (.getfield index, 3)) (hn : pc + 3 = n) (k : vV K G u lv (v :: st) n) : vV K G u lv (.ref a :: st) pc :=
  fun H locs ls hP hS hl => va_get hE.1.1 hE.1.2.1 hE.1.2.2.2.2 hin hE.1.2.2.2.1 hE.2.1 hP q0 he hc j hj (hE.1.2.2.2.2 _ hlink) (fun _ h9 => by rw [← href]; exact h9) hv hd (by subst hn; exact k H locs ls hP hS hl)
theorem v_put (n : Nat) (hE : eV K G cc nL own Ts rm) {ref C : String} {T : u_T} {N ci index a : Nat} (hin : ∀ w ∈ u_ws C T N, w ∈ Ts) (ty0 : Nat → FieldType) (hty : ∀ k, k < N → parseFieldDescriptor (T k).2.2.1 = some (ty0 k)) (hnm : ∀ a, a < N → ∀ b, b < N → a ≠ b → (T a).2.1 ≠ (T b).2.1) (q0 : Nat) {fs : List Value} (he : (G.2.2.2 u)[q0]? = some (a, .inr (ci, fs))) (hc : vwCl[ci]? = some (C, T, N)) (j : Nat) (hj : j < N) (hlink : Cond.fieldLink own index ref (T j).2.1 (T j).2.2.1 ∈ Ts) (href : (T j).1 = ref) (hfin : (T j).2.2.2 = false) {ty : FieldType} {v : Value} (hdt : parseFieldDescriptor (T j).2.2.1 = some ty) (hnw : narrow ty v = v) (hfit : fits ty v = true) (hlf : j < fs.length) {u' : S} (hu : (G.2.2.2 u).set q0 (a, .inr (ci, fs.set j v)) = G.2.2.2 u') (hd : decode cc pc = .ok (.putfield index, 3)) (hn : pc + 3 = n) (k : vV K G u' lv st n) : vV K G u lv (v :: .ref a :: st) pc :=
  fun H locs ls hP hS hl => va_put hE.1.1 hE.1.2.1 hE.1.2.2.2.2 hin ty0 hty hnm hE.1.2.2.2.1 hE.2.1 hP (hE.2.2.1 u) hS q0 he hc j hj (hE.1.2.2.2.2 _ hlink) (fun _ h9 => by rw [← href]; exact h9) hfin hdt hnw hfit hlf hd (fun H1 locs1 hP1 _ hS1 => by subst hn; rw [hu] at hP1; exact k H1 locs1 ls hP1 hS1 hl)
theorem v_iald (n : Nat) (hE : eV K G cc nL own Ts rm) (q0 t0 : Nat) {a : Nat} {cA : ClassId} {N : Nat} {f : Nat → Int32} (ha : (G.2.2.2 u)[q0]? = some (a, .inl (cA, N, .inl f))) (ht : G.2.1[t0]? = some (cA, .int)) {i : Nat} (hi : i < N) (hN : N < 2 ^ 31) (hd : decode cc pc = .ok (.iaload, 1)) (hn : pc + 1 = n) (k : vV K G u lv (.int (f i) :: st) n) : vV K G u lv (.int (nI i) :: .ref a :: st) pc :=
  fun H locs ls hP hS hl => va_iald hE.1.1 hE.1.2.1 hE.2.1 hP q0 t0 ha ht (vp_in_nI hi hN) hd (by subst hn; rw [nI_clamp (Nat.lt_trans hi hN)]; exact k H locs ls hP hS hl)
theorem v_zald (n : Nat) (hE : eV K G cc nL own Ts rm) (q0 t0 : Nat) {a : Nat} {cA : ClassId} {N : Nat} {f : Nat → Int32} (ha : (G.2.2.2 u)[q0]? = some (a, .inl (cA, N, .inl f))) (ht : G.2.1[t0]? = some (cA, .boolean)) {i : Nat} (hi : i < N) (hN : N < 2 ^ 31) (hd : decode cc pc = .ok (.baload, 1)) (hn : pc + 1 = n) (k : vV K G u lv (.int (f i) :: st) n) : vV K G u lv (.int (nI i) :: .ref a :: st) pc :=
  fun H locs ls hP hS hl => va_zald hE.1.1 hE.1.2.1 hE.2.1 hP q0 t0 ha ht (vp_in_nI hi hN) hd (by subst hn; rw [nI_clamp (Nat.lt_trans hi hN)]; exact k H locs ls hP hS hl)
theorem v_lald (n : Nat) (hE : eV K G cc nL own Ts rm) (q0 t0 : Nat) {a : Nat} {cA : ClassId} {N : Nat} {f : Nat → Int64} (ha : (G.2.2.2 u)[q0]? = some (a, .inl (cA, N, .inr (.inl f)))) (ht : G.2.1[t0]? = some (cA, .long)) {i : Nat} (hi : i < N) (hN : N < 2 ^ 31) (hd : decode cc pc = .ok (.laload, 1)) (hn : pc + 1 = n) (k : vV K G u lv (.long (f i) :: st) n) : vV K G u lv (.int (nI i) :: .ref a :: st) pc :=
  fun H locs ls hP hS hl => va_lald hE.1.1 hE.1.2.1 hE.2.1 hP q0 t0 ha ht (vp_in_nI hi hN) hd (by subst hn; rw [nI_clamp (Nat.lt_trans hi hN)]; exact k H locs ls hP hS hl)
theorem v_iast (n : Nat) (hE : eV K G cc nL own Ts rm) (q0 t0 : Nat) {a : Nat} {cA : ClassId} {N : Nat} {f : Nat → Int32} (ha : (G.2.2.2 u)[q0]? = some (a, .inl (cA, N, .inl (f)))) (ht : G.2.1[t0]? = some (cA, .int)) {i : Nat} {x : Int32} (hi : i < N) (hN : N < 2 ^ 31) {u' : S} (hu : (G.2.2.2 u).set q0 (a, .inl (cA, N, .inl (upd f i x))) = G.2.2.2 u') (hd : decode cc pc = .ok (.iastore, 1)) (hn : pc + 1 = n) (k : vV K G u' lv st n) : vV K G u lv (.int x :: .int (nI i) :: .ref a :: st) pc :=
  fun H locs ls hP hS hl => va_iast hE.1.1 hE.1.2.1 hE.2.1 hP (hE.2.2.1 u) hS q0 t0 ha ht (vp_in_nI hi hN) hd (fun H1 locs1 hP1 _ hS1 => by subst hn; rw [nI_clamp (Nat.lt_trans hi hN), hu] at hP1; exact k H1 locs1 ls hP1 hS1 hl)
theorem v_zast (n : Nat) (hE : eV K G cc nL own Ts rm) (q0 t0 : Nat) {a : Nat} {cA : ClassId} {N : Nat} {f : Nat → Int32} (ha : (G.2.2.2 u)[q0]? = some (a, .inl (cA, N, .inl (f)))) (ht : G.2.1[t0]? = some (cA, .boolean)) {i : Nat} {x : Int32} (hi : i < N) (hN : N < 2 ^ 31) {u' : S} (hu : (G.2.2.2 u).set q0 (a, .inl (cA, N, .inl (upd f i (vp_nar .boolean x)))) = G.2.2.2 u') (hd : decode cc pc = .ok (.bastore, 1)) (hn : pc + 1 = n) (k : vV K G u' lv st n) : vV K G u lv (.int x :: .int (nI i) :: .ref a :: st) pc :=
  fun H locs ls hP hS hl => va_zast hE.1.1 hE.1.2.1 hE.2.1 hP (hE.2.2.1 u) hS q0 t0 ha ht (vp_in_nI hi hN) hd (fun H1 locs1 hP1 _ hS1 => by subst hn; rw [nI_clamp (Nat.lt_trans hi hN), hu] at hP1; exact k H1 locs1 ls hP1 hS1 hl)
theorem v_last (n : Nat) (hE : eV K G cc nL own Ts rm) (q0 t0 : Nat) {a : Nat} {cA : ClassId} {N : Nat} {f : Nat → Int64} (ha : (G.2.2.2 u)[q0]? = some (a, .inl (cA, N, .inr (.inl (f))))) (ht : G.2.1[t0]? = some (cA, .long)) {i : Nat} {x : Int64} (hi : i < N) (hN : N < 2 ^ 31) {u' : S} (hu : (G.2.2.2 u).set q0 (a, .inl (cA, N, .inr (.inl (vp_updL f i x)))) = G.2.2.2 u') (hd : decode cc pc = .ok (.lastore, 1)) (hn : pc + 1 = n) (k : vV K G u' lv st n) : vV K G u lv (.long x :: .int (nI i) :: .ref a :: st) pc :=
  fun H locs ls hP hS hl => va_last hE.1.1 hE.1.2.1 hE.2.1 hP (hE.2.2.1 u) hS q0 t0 ha ht (vp_in_nI hi hN) hd (fun H1 locs1 hP1 _ hS1 => by subst hn; rw [nI_clamp (Nat.lt_trans hi hN), hu] at hP1; exact k H1 locs1 ls hP1 hS1 hl)
theorem v_aald (n : Nat) (hE : eV K G cc nL own Ts rm) (q0 t0 : Nat) {a : Nat} {cA : ClassId} {ty : FieldType} {N : Nat} {f : Nat → Option Nat} (ha : (G.2.2.2 u)[q0]? = some (a, .inl (cA, N, .inr (.inr (.inr (.inr f)))))) (ht : G.2.1[t0]? = some (cA, .array ty)) {i b : Nat} (hi : i < N) (hN : N < 2 ^ 31) (hb : f i = some b) (hd : decode cc pc = .ok (.aaload, 1)) (hn : pc + 1 = n) (k : vV K G u lv (.ref b :: st) n) : vV K G u lv (.int (nI i) :: .ref a :: st) pc := by
  intro H locs ls hP hS hl
  have hin := vp_in_nI hi hN
  have hlt : (nI i).toNatClampNeg < N := Nat.not_le.mp fun q => hin (Or.inr q)
  refine W.aald (v := .ref b) (ty := .array ty) hE.1.1 hE.1.2.1 (hP q0 _ ha) ((hE.2.1.2 t0 _ ht).1 N (fun j => va_rf (f j))) rfl (fun q => by cases q) (by show ¬ (nI i < 0 ∨ (arrV _ _ _).slots.size ≤ _); rw [arrV_size]; exact hin) ?_ rfl rfl hd (by subst hn; exact k H locs ls hP hS hl)
  show (arrV _ _ _).slots[_]? = _
  rw [arrV_read _ _ hlt, nI_clamp (Nat.lt_trans hi hN), hb]
  rfl
theorem v_alen (n : Nat) (hE : eV K G cc nL own Ts rm) (q0 t0 : Nat) {a : Nat} {cA : ClassId} {x : vp_A} (ha : (G.2.2.2 u)[q0]? = some (a, .inl (cA, x))) {ty : FieldType} (ht : G.2.1[t0]? = some (cA, ty)) (hd : decode cc pc = .ok (.arraylength, 1)) (hn : pc + 1 = n) (k : vV K G u lv (.int (nI x.1) :: st) n) : vV K G u lv (.ref a :: st) pc :=
  fun H locs ls hP hS hl => va_alen hE.1.1 hE.1.2.1 hE.2.1 hP q0 t0 ha ht rfl hd (by subst hn; exact k H locs ls hP hS hl)
theorem v_min (n : Nat) (hE : eV K G cc nL own Ts rm) {index : Nat} (hlink : Cond.methodLink own index Lib.Math.min.name ∈ Ts) (hstat : Cond.static Lib.Math.min.name ∈ Ts) (hini : Cond.initialized "java/lang/Math" ∈ Ts) (hcode : Cond.code Lib.Math.min.name Lib.Math.min.code 2 (some .int) ∈ Ts) (hr : 1 ≤ rm.frames ∧ (st.map fun v => v.category).sum + 13 ≤ rm.locals) {x y : Int32} (hd : decode cc pc = .ok (.invokestatic index, 3)) (hn : pc + 3 = n) (k : vV K G u lv (.int (if y < x then y else x) :: st) n) : vV K G u lv (.int y :: .int x :: st) pc := by
  intro H locs ls hP hS hl
  have hR : K.1.1.2.2.2 = rm := hE.2.2.2.2.2.1
  have hts := hE.1.2.2.2.2
  exact va_mmin hE.1.1 hE.1.2.1 (by rw [hE.1.2.2.1, hl.1, hE.2.2.2.2.2.2.1]) hE.1.2.2.2.1 (hts _ hlink) (hts _ hstat) (hts _ hini) (hts _ hcode) (by rw [hR]; exact hr.1) (by rw [hR]; exact hr.2) (by rw [hR]; exact hE.2.2.2.2.2.2.2.1) (by rw [hR]; exact hE.2.2.2.2.2.2.2.2) hd (by subst hn; exact k H locs ls hP hS hl)
theorem v_absL (n : Nat) (hE : eV K G cc nL own Ts rm) {index : Nat} (hlink : Cond.methodLink own index Lib.MathLoose.abs_long.x ∈ Ts) (hstat : Cond.static Lib.MathLoose.abs_long.x ∈ Ts) (hini : Cond.initialized "java/lang/Math" ∈ Ts) (hcode : Cond.code Lib.MathLoose.abs_long.x Lib.MathLoose.abs_long.code 2 (some .long) ∈ Ts) (hr : 1 ≤ rm.frames ∧ (st.map fun v => v.category).sum + 13 ≤ rm.locals) {x : Int64} (hd : decode cc pc = .ok (.invokestatic index, 3)) (hn : pc + 3 = n) (k : vV K G u lv (.long (if 0 < x then x else -x) :: st) n) : vV K G u lv (.long x :: st) pc := by
  intro H locs ls hP hS hl
  have hR : K.1.1.2.2.2 = rm := hE.2.2.2.2.2.1
  have hts := hE.1.2.2.2.2
  exact va_mabs_long hE.1.1 hE.1.2.1 (by rw [hE.1.2.2.1, hl.1, hE.2.2.2.2.2.2.1]) hE.1.2.2.2.1 (hts _ hlink) (hts _ hstat) (hts _ hini) (hts _ hcode) (by rw [hR]; exact hr.1) (by rw [hR]; exact hr.2) (by rw [hR]; exact hE.2.2.2.2.2.2.2.1) (by rw [hR]; exact hE.2.2.2.2.2.2.2.2) hd (by subst hn; exact k H locs ls hP hS hl)
end VV
/-! contracts: a method, at a world u of G and arguments as, answers r and leaves the world u' -/
abbrev vPc {S : Type} (G : vG S) (as : List Value) (u : S) (sz : Nat) : Array Value → State → Prop := va_Pc as (fun U => U.heap.size = sz ∧ va_P G.1 vwCl (G.2.2.2 u) U.heap ∧ va_K G.1 vwCl G.2.1 U ∧ va_D (fun _ => True) (G.2.2.2 u) ∧ vNs G.2.2.1 U)
abbrev vB {S : Type} (G : vG S) (A : Nat → Prop) : S → State → Prop := fun v t => va_P G.1 vwCl (G.2.2.2 v) t.heap ∧ va_K G.1 vwCl G.2.1 t ∧ va_D A (G.2.2.2 v)
abbrev qI {S : Type} (G : vG S) (r : Int32) (u' : S) (A : Nat → Prop) : Array Value → State → Outcome → State → Prop := va_Qi (fun r' v => r' = r ∧ v = u') (vB G A) A
abbrev qL {S : Type} (G : vG S) (r : Int64) (u' : S) (A : Nat → Prop) : Array Value → State → Outcome → State → Prop := va_Ql (fun r' v => r' = r ∧ v = u') (vB G A) A
abbrev qV {S : Type} (G : vG S) (u' : S) (A : Nat → Prop) : Array Value → State → Outcome → State → Prop := va_Qv (fun v => v = u') (vB G A) A
def mM {S : Type} (l : Launch) (G : vG S) (y : MethodName) (ws : List Cond) (rm : Room) (as : List Value) (u : S) (Qc : (Nat → Prop) → Array Value → State → Outcome → State → Prop) : Prop :=
  ∀ sz : Nat, Met l y ws rm (vPc G as u sz) (Qc (va_A (G.2.2.2 u) sz)) 0 0 (va_A (G.2.2.2 u) sz)
abbrev mI {S : Type} (l : Launch) (G : vG S) (y : MethodName) (ws : List Cond) (rm : Room) (as : List Value) (u : S) (r : Int32) (u' : S) : Prop := mM l G y ws rm as u (qI G r u')
abbrev mL {S : Type} (l : Launch) (G : vG S) (y : MethodName) (ws : List Cond) (rm : Room) (as : List Value) (u : S) (r : Int64) (u' : S) : Prop := mM l G y ws rm as u (qL G r u')
abbrev mV {S : Type} (l : Launch) (G : vG S) (y : MethodName) (ws : List Cond) (rm : Room) (as : List Value) (u : S) (u' : S) : Prop := mM l G y ws rm as u (qV G u')
theorem vNs.same {ns : List vN} {u U : State} (h : u.vm = U.vm) (hN : vNs ns u) : vNs ns U := fun q hq => va_Nw.same rfl h (hN q hq)
theorem vNs.warm {ns : List vN} {s U : State} (hW : s.WarmedH U.vm) (hN : vNs ns s) : vNs ns U := fun q hq => va_Nw.warmM hW (hN q hq)
theorem vD_geo {A : Nat → Prop} {w w' : va_W} (h : w'.map Prod.fst = w.map Prod.fst) (hD : va_D A w) : va_D A w' := by
  have key : ∀ (i : Nat) (q : Nat × va_E), w'[i]? = some q → ∃ q0, w[i]? = some q0 ∧ q0.1 = q.1 := by
    intro i q hq
    have h1 : (w'.map Prod.fst)[i]? = some q.1 := by rw [List.getElem?_map, hq]; rfl
    rw [h, List.getElem?_map] at h1
    cases hw : w[i]? with
    | none => rw [hw] at h1; cases h1
    | some q0 => rw [hw] at h1; exact ⟨q0, rfl, Option.some.inj h1⟩
  refine ⟨fun i j p q hp hq e => ?_, fun k q hq => ?_⟩
  · obtain ⟨p0, h1, e1⟩ := key i p hp
    obtain ⟨q0, h2, e2⟩ := key j q hq
    exact hD.1 i j p0 q0 h1 h2 (by rw [e1, e2, e])
  · obtain ⟨q0, h1, e1⟩ := key k q hq
    rw [← e1]
    exact hD.2 k q0 h1
theorem vPc.blind {S : Type} (G : vG S) (as : List Value) (u : S) (sz : Nat) : FrameBlind (vPc G as u sz) := fun a U g mk q => by
  obtain ⟨q0, q1, qP, qK, qD, qN⟩ := q
  exact ⟨q0, q1, qP, va_K.moved (u := U) (U := U.calling g mk a) (Vm.Alike.refl U.vm) qK, qD, vNs.same (u := U) (U := U.calling g mk a) rfl qN⟩
section MOF
variable {S : Type} {l : Launch} {G : vG S} {y : MethodName} {ws ws' : List Cond} {rm : Room} {as : List Value} {u u' : S} {cc : ByteArray} {nL : Nat} {own : String}
theorem mM_of {ret : Option FieldType} {Qc : (Nat → Prop) → Array Value → State → Outcome → State → Prop} (hy : plainName y.cls = true) (hw : ws = Cond.code y cc nL ret :: ws') (hcl : y.cls = own) (hgeo : ∀ v : S, (G.2.2.2 v).map Prod.fst = (G.2.2.2 u).map Prod.fst) (hlen : (lg_sl as).length ≤ nL)
    (body : ∀ (p : Program) (e : Env) (s : State) (m : MethodId) (below : List Frame) (meth : Method) (c : Code) (A : Nat → Prop), p.tables.exec = Jvm.exec → c.code = cc → meth.sig.returnType = ret → meth.locks = false → va_K G.1 vwCl G.2.1 s → (∀ v : S, va_D A (G.2.2.2 v)) →
      eV ((((p, l, e, rm), (s, m, as.toArray, below), (meth, c), (0, 0)), A, nL, MQ below (Qc A) as.toArray s 0 0 A) : vK) G cc nL own ws rm → vV ((((p, l, e, rm), (s, m, as.toArray, below), (meth, c), (0, 0)), A, nL, MQ below (Qc A) as.toArray s 0 0 A) : vK) G u (lv_args 0 as) [] 0) : mM l G y ws rm as u Qc := by
  intro sz
  refine Met.ofW (cc := cc) (maxL := nL) (ret := ret) hy hw ?_
  intro p e s m args below meth c s₁ B hml hv
  obtain ⟨rfl, hsz, hP, hK, hD0, hN⟩ := hv
  have hts := atoms_spec (ws := ws) B.pre
  have hown : s.vm.findClass own = some m.cls := by rw [← hcl]; exact findClass_of_methodNamed B.named
  subst hsz
  have hD : ∀ v : S, va_D (va_A (G.2.2.2 u) s.heap.size) (G.2.2.2 v) := fun v => vD_geo (hgeo v) (hD0.self (sz := s.heap.size))
  have hl := lv_entry as (n := nL) hlen
  rw [lg_entry_eq]
  exact body p e s m below meth c (va_A (G.2.2.2 u) s.heap.size) B.exec B.bytes B.returns B.notSynchronized hK hD ⟨⟨B.exec, B.bytes, hml, hown, hts⟩, hK, hD, fun q h => Or.inr h, hN, rfl, rfl, Nat.zero_le _, Nat.zero_le _⟩ s.heap [] _ hP va_S.rf hl
theorem mI_of {r : Int32} (hy : plainName y.cls = true) (hw : ws = Cond.code y cc nL (some .int) :: ws') (hcl : y.cls = own) (hgeo : ∀ v : S, (G.2.2.2 v).map Prod.fst = (G.2.2.2 u).map Prod.fst) (hlen : (lg_sl as).length ≤ nL)
    (body : ∀ K : vK, K.1.1.2.1 = l → eV K G cc nL own ws rm → (∀ pc lv, decode cc pc = .ok (.ireturn, 1) → vV K G u' lv [.int r] pc) → vV K G u (lv_args 0 as) [] 0) : mI l G y ws rm as u r u' := by
  refine mM_of hy hw hcl hgeo hlen ?_
  intro p e s m below meth c A hx hb hr hlocks hK hD hE
  refine body _ rfl hE (fun pc lv hd H locs ls hP hS hl => ?_)
  exact W.iret hx hb hr (fun t ht hW => ⟨⟨r, u', rfl, ⟨rfl, rfl⟩, by rw [ht]; exact hP, va_K.moved hW.alike hK, hD u'⟩, hS.F ht⟩) hS.2.2 hd hlocks
theorem mB_of {b : Bool} (hy : plainName y.cls = true) (hw : ws = Cond.code y cc nL (some .boolean) :: ws') (hcl : y.cls = own) (hgeo : ∀ v : S, (G.2.2.2 v).map Prod.fst = (G.2.2.2 u).map Prod.fst) (hlen : (lg_sl as).length ≤ nL)
    (body : ∀ K : vK, K.1.1.2.1 = l → eV K G cc nL own ws rm → (∀ pc lv, decode cc pc = .ok (.ireturn, 1) → vV K G u' lv [.int (bI b)] pc) → vV K G u (lv_args 0 as) [] 0) : mI l G y ws rm as u (bI b) u' := by
  refine mM_of hy hw hcl hgeo hlen ?_
  intro p e s m below meth c A hx hb hr hlocks hK hD hE
  refine body _ rfl hE (fun pc lv hd H locs ls hP hS hl => ?_)
  exact W.zret hx hb hr (bI_n b) (fun t ht hW => ⟨⟨bI b, u', rfl, ⟨rfl, rfl⟩, by rw [ht]; exact hP, va_K.moved hW.alike hK, hD u'⟩, hS.F ht⟩) hS.2.2 hd hlocks
theorem mL_of {r : Int64} (hy : plainName y.cls = true) (hw : ws = Cond.code y cc nL (some .long) :: ws') (hcl : y.cls = own) (hgeo : ∀ v : S, (G.2.2.2 v).map Prod.fst = (G.2.2.2 u).map Prod.fst) (hlen : (lg_sl as).length ≤ nL)
    (body : ∀ K : vK, K.1.1.2.1 = l → eV K G cc nL own ws rm → (∀ pc lv, decode cc pc = .ok (.lreturn, 1) → vV K G u' lv [.long r] pc) → vV K G u (lv_args 0 as) [] 0) : mL l G y ws rm as u r u' := by
  refine mM_of hy hw hcl hgeo hlen ?_
  intro p e s m below meth c A hx hb hr hlocks hK hD hE
  refine body _ rfl hE (fun pc lv hd H locs ls hP hS hl => ?_)
  exact W.lret hx hb hr (fun t ht hW => ⟨⟨r, u', rfl, ⟨rfl, rfl⟩, by rw [ht]; exact hP, va_K.moved hW.alike hK, hD u'⟩, hS.F ht⟩) hS.2.2 hd hlocks
theorem mV_of (hy : plainName y.cls = true) (hw : ws = Cond.code y cc nL none :: ws') (hcl : y.cls = own) (hgeo : ∀ v : S, (G.2.2.2 v).map Prod.fst = (G.2.2.2 u).map Prod.fst) (hlen : (lg_sl as).length ≤ nL)
    (body : ∀ K : vK, K.1.1.2.1 = l → eV K G cc nL own ws rm → (∀ pc lv, decode cc pc = .ok (.return_, 1) → vV K G u' lv [] pc) → vV K G u (lv_args 0 as) [] 0) : mV l G y ws rm as u u' := by
  refine mM_of hy hw hcl hgeo hlen ?_
  intro p e s m below meth c A hx hb hr hlocks hK hD hE
  refine body _ rfl hE (fun pc lv hd H locs ls hP hS hl => ?_)
  exact W.vret hx hb hr (fun t ht hW => ⟨⟨u', rfl, rfl, by rw [ht]; exact hP, va_K.moved hW.alike hK, hD u'⟩, hS.F ht⟩) hS.2.2 hd hlocks
end MOF
/-! calls -/
abbrev vRun {S S' : Type} (K : vK) (G : vG S) (G' : vG S') (u : S) (v : S') (lv : List (Nat × Value)) (st0 st : List Value) (pc : Nat) (Qc : (Nat → Prop) → Array Value → State → Outcome → State → Prop) (a : Array Value) : Prop :=
  ∀ (H : Heap) (locs : List Loc) (ls : Array Slot), va_P G.1 vwCl (G.2.2.2 u) H → va_S K.2.1 (eS K.1).heap H locs → lv_has ls K.2.2.1 lv →
    va_Run K.1.1.1 K.1.1.2.1 K.1.1.2.2.1 K.1.1.2.2.2 (eS K.1) (eM K.1) (eA K.1) K.1.2.1.2.2.2 K.1.2.2.1.1 K.1.2.2.1.2 H locs K.1.2.2.2.1 K.1.2.2.2.2 0 0 (F0 (eM K.1) pc ls st0) st (Qc (va_A (G'.2.2.2 v) H.size) a) (va_A (G'.2.2.2 v) H.size)
/-- the callee's world G', v among the caller's -/
abbrev vSub {S S' : Type} (K : vK) (G : vG S) (G' : vG S') (u : S) (v : S') : Prop := (∀ H : Heap, va_P G.1 vwCl (G.2.2.2 u) H → va_P G'.1 vwCl (G'.2.2.2 v) H) ∧ va_K G'.1 vwCl G'.2.1 (eS K.1) ∧ va_D K.2.1 (G'.2.2.2 v) ∧ vNs G'.2.2.1 (eS K.1)
section CALLS
variable {S S' : Type} {K : vK} {G : vG S} {G' : vG S'} {cc : ByteArray} {nL : Nat} {own : String} {Ts : List Cond} {rm : Room} {u u' : S} {v v' : S'} {lv : List (Nat × Value)} {st st0 : List Value} {pc : Nat}
theorem vSub.self (hE : eV K G cc nL own Ts rm) : vSub K G G u u := ⟨fun _ h => h, hE.2.1, hE.2.2.1 u, hE.2.2.2.2.1⟩
theorem v_runV (na : Nat) (hE : eV K G cc nL own Ts rm) (hs : vSub K G G' u v) {y : MethodName} {ws ws' : List Cond} {rm' : Room} {b : Nat} {As : List Value} {Qc : (Nat → Prop) → Array Value → State → Outcome → State → Prop} {C : String} {T : u_T} {N ci q0 maxL idx : Nat} {fs : List Value} {bytes : ByteArray} {ret : Option FieldType} (hM : mM K.1.1.2.1 G' y ws rm' (.ref b :: As) v Qc) (hG : GoodIn Ts (wsV own idx C y ws)) (hw : ws = Cond.code y bytes maxL ret :: ws')
    (hy : y.cls = C ∧ y.cls ≠ "java/lang/invoke/MethodHandle" ∧ y.cls ≠ "java/lang/invoke/VarHandle" ∧ (parseMethodDescriptor y.desc).map (fun d => d.parameters.length) = some na) (hna : As.length = na) (he : (G'.2.2.2 v)[q0]? = some (b, .inr (ci, fs))) (hc : vwCl[ci]? = some (C, T, N)) (hrm : rm'.cells = 0 ∧ rm'.slots = 0 ∧ rm'.frames + 1 ≤ rm.frames ∧ 8 + (maxL + 11) + rm'.locals ≤ rm.locals) (hst : st0 = As.reverse ++ .ref b :: st) (hcat : (st.map fun v => v.category).sum ≤ 8) (hd : decode cc pc = .ok (.invokevirtual idx, 3)) :
    vRun K G G' u v lv st0 st pc Qc (Value.ref b :: As).toArray := by
  intro H locs ls hP hS hl
  have hR : K.1.1.2.2.2 = rm := hE.2.2.2.2.2.1
  obtain ⟨hsub, hK', hD', hN'⟩ := hs
  have hP' := hsub H hP
  refine va_runV (As := As) (rest := st) hE.1 (hM H.size) (cwV na hE.1.2.2.2.2 hG hw hrm.1 hrm.2.1 hy ⟨by rw [hR]; exact hrm.2.2.1, by rw [hR]; exact hrm.2.2.2⟩) ⟨vPc.blind _ _ _ _, va_recv hK' hP' hc he, fun U hU hW => ⟨rfl, by rw [hU], by rw [hU]; exact hP', va_K.moved hW.alike hK', hD'.weaken (fun _ _ _ _ => trivial), hN'.warm hW⟩⟩ rfl hna (hl.1.trans hE.2.2.2.2.2.2.1) hst (lv_room hcat) hd ⟨by rw [hR]; exact hE.2.2.2.2.2.2.2.1, by rw [hR]; exact hE.2.2.2.2.2.2.2.2⟩
theorem v_runS (na : Nat) (hE : eV K G cc nL own Ts rm) (hs : vSub K G G' u v) {y : MethodName} {ws ws' : List Cond} {rm' : Room} {As : List Value} {Qc : (Nat → Prop) → Array Value → State → Outcome → State → Prop} {maxL idx : Nat} {bytes : ByteArray} {ret : Option FieldType} (hM : mM K.1.1.2.1 G' y ws rm' As v Qc) (hG : GoodIn Ts (va_wsS own idx y ws)) (hw : ws = Cond.code y bytes maxL ret :: ws')
    (hy : y.cls ≠ "java/lang/invoke/MethodHandle" ∧ y.cls ≠ "java/lang/invoke/VarHandle" ∧ (parseMethodDescriptor y.desc).map (fun d => d.parameters.length) = some na) (hna : As.length = na) (hrm : rm'.cells = 0 ∧ rm'.slots = 0 ∧ rm'.frames + 1 ≤ rm.frames ∧ 8 + (maxL + 11) + rm'.locals ≤ rm.locals) (hst : st0 = As.reverse ++ st) (hcat : (st.map fun v => v.category).sum ≤ 8) (hd : decode cc pc = .ok (.invokestatic idx, 3)) :
    vRun K G G' u v lv st0 st pc Qc As.toArray := by
  intro H locs ls hP hS hl
  have hR : K.1.1.2.2.2 = rm := hE.2.2.2.2.2.1
  obtain ⟨hsub, hK', hD', hN'⟩ := hs
  have hP' := hsub H hP
  refine va_runS (As := As) (rest := st) hE.1 (hM H.size) (va_cwS na hE.1.2.2.2.2 hG hw hrm.1 hrm.2.1 hy ⟨by rw [hR]; exact hrm.2.2.1, by rw [hR]; exact hrm.2.2.2⟩) ⟨vPc.blind _ _ _ _, fun U hU hW => ⟨rfl, by rw [hU], by rw [hU]; exact hP', va_K.moved hW.alike hK', hD'.weaken (fun _ _ _ _ => trivial), hN'.warm hW⟩⟩ rfl hna (hl.1.trans hE.2.2.2.2.2.2.1) hst (lv_room hcat) hd ⟨by rw [hR]; exact hE.2.2.2.2.2.2.2.1, by rw [hR]; exact hE.2.2.2.2.2.2.2.2⟩
theorem v_runSN (na : Nat) (hE : eV K G cc nL own Ts rm) (hs : vSub K G G' u v) {y : MethodName} {ws ws' : List Cond} {rm' : Room} {As : List Value} {Qc : (Nat → Prop) → Array Value → State → Outcome → State → Prop} {maxL idx : Nat} {host : String} {bytes : ByteArray} {ret : Option FieldType} (hM : mM K.1.1.2.1 G' y ws rm' As v Qc) (hG : GoodIn Ts ws) (hnest : (own, idx, y, host) ∈ G.2.2.1) (hini : Cond.initialized y.cls ∈ Ts) (hstat : Cond.static y ∈ Ts) (hw : ws = Cond.code y bytes maxL ret :: ws')
    (hy : y.cls ≠ "java/lang/invoke/MethodHandle" ∧ y.cls ≠ "java/lang/invoke/VarHandle" ∧ (parseMethodDescriptor y.desc).map (fun d => d.parameters.length) = some na) (hna : As.length = na) (hrm : rm'.cells = 0 ∧ rm'.slots = 0 ∧ rm'.frames + 1 ≤ rm.frames ∧ 8 + (maxL + 11) + rm'.locals ≤ rm.locals) (hst : st0 = As.reverse ++ st) (hcat : (st.map fun v => v.category).sum ≤ 8) (hd : decode cc pc = .ok (.invokestatic idx, 3)) :
    vRun K G G' u v lv st0 st pc Qc As.toArray := by
  intro H locs ls hP hS hl
  have hR : K.1.1.2.2.2 = rm := hE.2.2.2.2.2.1
  obtain ⟨hsub, hK', hD', hN'⟩ := hs
  have hP' := hsub H hP
  refine va_runSN (As := As) (rest := st) hE.1 (hM H.size) ⟨va_cnB na hE.1.2.2.2.2 hG hw hrm.1 hrm.2.1 (hE.2.2.2.2.1 _ hnest) (hE.1.2.2.2.2 _ hini) hy ⟨by rw [hR]; exact hrm.2.2.1, by rw [hR]; exact hrm.2.2.2⟩, hE.1.2.2.2.2 _ hstat, trivial⟩ ⟨vPc.blind _ _ _ _, fun U hU hW => ⟨rfl, by rw [hU], by rw [hU]; exact hP', va_K.moved hW.alike hK', hD'.weaken (fun _ _ _ _ => trivial), hN'.warm hW⟩⟩ rfl hna (hl.1.trans hE.2.2.2.2.2.2.1) hst (lv_room hcat) hd ⟨by rw [hR]; exact hE.2.2.2.2.2.2.2.1, by rw [hR]; exact hE.2.2.2.2.2.2.2.2⟩
theorem v_fre (hE : eV K G cc nL own Ts rm) (hs : vSub K G G' u v) {H : Heap} {locs : List Loc} (hS : va_S K.2.1 (eS K.1).heap H locs) : ∀ q, va_A (G'.2.2.2 v) H.size q → K.2.1 q := by
  intro q h
  rcases h with ⟨k, e, h⟩ | h
  · exact hs.2.2.1.2 k _ h
  · exact hE.2.2.2.1 q (Nat.le_trans hS.1 h)
/-- what the caller holds behind a call: hback says how its world comes out of what it held and what the callee left -/
abbrev vBack {S S' : Type} (G : vG S) (G' : vG S') (u u' : S) (v v' : S') : Prop := ∀ H H1 : Heap, va_P G.1 vwCl (G.2.2.2 u) H → (∀ q : Nat, q < H.size → ¬ va_A (G'.2.2.2 v) H.size q → H1[q]? = H[q]?) → va_P G'.1 vwCl (G'.2.2.2 v') H1 → va_P G.1 vwCl (G.2.2.2 u') H1
theorem v_ci (n : Nat) (hE : eV K G cc nL own Ts rm) (hs : vSub K G G' u v) {r : Int32} {a : Array Value} (hr : vRun K G G' u v lv st0 st pc (qI G' r v') a) (hback : vBack G G' u u' v v') (hn : pc + 3 = n) (k : vV K G u' lv (.int r :: st) n) : vV K G u lv st0 pc := by
  intro H locs ls hP hS hl
  have hF := v_fre hE hs hS
  refine va_calli (hr H locs ls hP hS hl) hS (fun q _ h => hF q h) hF (fun r' w t H1 locs1 ht hvm hw hB hz1 hk1 hS1 => ?_)
  obtain ⟨rfl, rfl⟩ := hw
  obtain ⟨hP1, -, -⟩ := hB
  rw [ht] at hP1
  subst hn
  exact k H1 locs1 ls (hback H H1 hP hk1 hP1) hS1 hl
theorem v_cl (n : Nat) (hE : eV K G cc nL own Ts rm) (hs : vSub K G G' u v) {r : Int64} {a : Array Value} (hr : vRun K G G' u v lv st0 st pc (qL G' r v') a) (hback : vBack G G' u u' v v') (hn : pc + 3 = n) (k : vV K G u' lv (.long r :: st) n) : vV K G u lv st0 pc := by
  intro H locs ls hP hS hl
  have hF := v_fre hE hs hS
  refine va_calll (hr H locs ls hP hS hl) hS (fun q _ h => hF q h) hF (fun r' w t H1 locs1 ht hvm hw hB hz1 hk1 hS1 => ?_)
  obtain ⟨rfl, rfl⟩ := hw
  obtain ⟨hP1, -, -⟩ := hB
  rw [ht] at hP1
  subst hn
  exact k H1 locs1 ls (hback H H1 hP hk1 hP1) hS1 hl
theorem v_cv (n : Nat) (hE : eV K G cc nL own Ts rm) (hs : vSub K G G' u v) {a : Array Value} (hr : vRun K G G' u v lv st0 st pc (qV G' v') a) (hback : vBack G G' u u' v v') (hn : pc + 3 = n) (k : vV K G u' lv st n) : vV K G u lv st0 pc := by
  intro H locs ls hP hS hl
  have hF := v_fre hE hs hS
  refine va_callv (hr H locs ls hP hS hl) hS (fun q _ h => hF q h) hF (fun w t H1 locs1 ht hvm hw hB hz1 hk1 hS1 => ?_)
  subst hw
  obtain ⟨hP1, -, -⟩ := hB
  rw [ht] at hP1
  subst hn
  exact k H1 locs1 ls (hback H H1 hP hk1 hP1) hS1 hl
/-- the same world -/
theorem v_ciE (n : Nat) (hE : eV K G cc nL own Ts rm) {r : Int32} {a : Array Value} (hr : vRun K G G u u lv st0 st pc (qI G r u') a) (hn : pc + 3 = n) (k : vV K G u' lv (.int r :: st) n) : vV K G u lv st0 pc := v_ci n hE (vSub.self hE) hr (fun _ _ _ _ h => h) hn k
theorem v_clE (n : Nat) (hE : eV K G cc nL own Ts rm) {r : Int64} {a : Array Value} (hr : vRun K G G u u lv st0 st pc (qL G r u') a) (hn : pc + 3 = n) (k : vV K G u' lv (.long r :: st) n) : vV K G u lv st0 pc := v_cl n hE (vSub.self hE) hr (fun _ _ _ _ h => h) hn k
theorem v_cvE (n : Nat) (hE : eV K G cc nL own Ts rm) {a : Array Value} (hr : vRun K G G u u lv st0 st pc (qV G u') a) (hn : pc + 3 = n) (k : vV K G u' lv st n) : vV K G u lv st0 pc := v_cv n hE (vSub.self hE) hr (fun _ _ _ _ h => h) hn k
end CALLS
end
section
/-- a number or nothing, as an int: nothing is z -/
def oI (z : Int32) (x : Option Nat) : Int32 := match x with
  | none => z
  | some k => nI k
theorem up_nI (f : Nat → Nat) (k x : Nat) : upd (fun j => nI (f j)) k (nI x) = fun j => nI (va_up f k x j) := by
  funext j
  by_cases h : j = k <;> simp [upd, va_up, h]
theorem up_oI (z : Int32) (f : Nat → Option Nat) (k : Nat) (x : Option Nat) : upd (fun j => oI z (f j)) k (oI z x) = fun j => oI z (va_up f k x j) := by
  funext j
  by_cases h : j = k <;> simp [upd, va_up, h]
theorem up_bI (f : Nat → Bool) (k : Nat) (x : Bool) : upd (fun j => bI (f j)) k (vp_nar .boolean (bI x)) = fun j => bI (va_up f k x j) := by
  rw [bI_nar]
  funext j
  by_cases h : j = k <;> simp [upd, va_up, h]
theorem up_i (f : Nat → Int32) (k : Nat) (x : Int32) : upd f k x = va_up f k x := rfl
theorem up_l (f : Nat → Int64) (k : Nat) (x : Int64) : vp_updL f k x = va_up f k x := rfl

abbrev XN : Type := (Nat) × (Nat) × (Nat → Nat) × (Nat → Nat) × (Nat → Nat) × (Nat → Nat) × (Nat → Nat → Nat) × (Nat → Nat)
abbrev XD : Type := (Nat → Int32)
abbrev XM : Type := (Nat → Int32) × (Nat → Int32) × (Nat → Int32) × (Nat → Int32)
abbrev XE : Type := (Nat) × (Nat) × (Nat) × (Int64) × (Nat → Nat → Int64) × (Nat → Option Nat) × (Nat → Option Nat) × (Nat → Bool)
abbrev XG : Type := (Nat → Int64) × (Nat → Int64)
abbrev XS : Type := XN × XD × XM × XE × XG
abbrev x_n (u : XS) : Nat := u.1.1
abbrev xs_n (u : XS) (x : Nat) : XS := ((x, u.1.2.1, u.1.2.2.1, u.1.2.2.2.1, u.1.2.2.2.2.1, u.1.2.2.2.2.2.1, u.1.2.2.2.2.2.2.1, u.1.2.2.2.2.2.2.2), u.2.1, u.2.2.1, u.2.2.2.1, u.2.2.2.2)
abbrev x_m (u : XS) : Nat := u.1.2.1
abbrev xs_m (u : XS) (x : Nat) : XS := ((u.1.1, x, u.1.2.2.1, u.1.2.2.2.1, u.1.2.2.2.2.1, u.1.2.2.2.2.2.1, u.1.2.2.2.2.2.2.1, u.1.2.2.2.2.2.2.2), u.2.1, u.2.2.1, u.2.2.2.1, u.2.2.2.2)
abbrev x_src (u : XS) : Nat → Nat := u.1.2.2.1
abbrev xs_src (u : XS) (x : Nat → Nat) : XS := ((u.1.1, u.1.2.1, x, u.1.2.2.2.1, u.1.2.2.2.2.1, u.1.2.2.2.2.2.1, u.1.2.2.2.2.2.2.1, u.1.2.2.2.2.2.2.2), u.2.1, u.2.2.1, u.2.2.2.1, u.2.2.2.2)
abbrev x_tgt (u : XS) : Nat → Nat := u.1.2.2.2.1
abbrev xs_tgt (u : XS) (x : Nat → Nat) : XS := ((u.1.1, u.1.2.1, u.1.2.2.1, x, u.1.2.2.2.2.1, u.1.2.2.2.2.2.1, u.1.2.2.2.2.2.2.1, u.1.2.2.2.2.2.2.2), u.2.1, u.2.2.1, u.2.2.2.1, u.2.2.2.2)
abbrev x_met (u : XS) : Nat → Nat := u.1.2.2.2.2.1
abbrev xs_met (u : XS) (x : Nat → Nat) : XS := ((u.1.1, u.1.2.1, u.1.2.2.1, u.1.2.2.2.1, x, u.1.2.2.2.2.2.1, u.1.2.2.2.2.2.2.1, u.1.2.2.2.2.2.2.2), u.2.1, u.2.2.1, u.2.2.2.1, u.2.2.2.2)
abbrev x_len (u : XS) : Nat → Nat := u.1.2.2.2.2.2.1
abbrev xs_len (u : XS) (x : Nat → Nat) : XS := ((u.1.1, u.1.2.1, u.1.2.2.1, u.1.2.2.2.1, u.1.2.2.2.2.1, x, u.1.2.2.2.2.2.2.1, u.1.2.2.2.2.2.2.2), u.2.1, u.2.2.1, u.2.2.2.1, u.2.2.2.2)
abbrev x_lnk (u : XS) : Nat → Nat → Nat := u.1.2.2.2.2.2.2.1
abbrev xs_lnk (u : XS) (x : Nat → Nat → Nat) : XS := ((u.1.1, u.1.2.1, u.1.2.2.1, u.1.2.2.2.1, u.1.2.2.2.2.1, u.1.2.2.2.2.2.1, x, u.1.2.2.2.2.2.2.2), u.2.1, u.2.2.1, u.2.2.2.1, u.2.2.2.2)
abbrev x_cost (u : XS) : Nat → Nat := u.1.2.2.2.2.2.2.2
abbrev xs_cost (u : XS) (x : Nat → Nat) : XS := ((u.1.1, u.1.2.1, u.1.2.2.1, u.1.2.2.2.1, u.1.2.2.2.2.1, u.1.2.2.2.2.2.1, u.1.2.2.2.2.2.2.1, x), u.2.1, u.2.2.1, u.2.2.2.1, u.2.2.2.2)
abbrev x_dem (u : XS) : Nat → Int32 := u.2.1
abbrev xs_dem (u : XS) (x : Nat → Int32) : XS := (u.1, x, u.2.2.1, u.2.2.2.1, u.2.2.2.2)
abbrev x_load (u : XS) : Nat → Int32 := u.2.2.1.1
abbrev xs_load (u : XS) (x : Nat → Int32) : XS := (u.1, u.2.1, (x, u.2.2.1.2.1, u.2.2.1.2.2.1, u.2.2.1.2.2.2), u.2.2.2.1, u.2.2.2.2)
abbrev x_out (u : XS) : Nat → Int32 := u.2.2.1.2.1
abbrev xs_out (u : XS) (x : Nat → Int32) : XS := (u.1, u.2.1, (u.2.2.1.1, x, u.2.2.1.2.2.1, u.2.2.1.2.2.2), u.2.2.2.1, u.2.2.2.2)
abbrev x_inn (u : XS) : Nat → Int32 := u.2.2.1.2.2.1
abbrev xs_inn (u : XS) (x : Nat → Int32) : XS := (u.1, u.2.1, (u.2.2.1.1, u.2.2.1.2.1, x, u.2.2.1.2.2.2), u.2.2.2.1, u.2.2.2.2)
abbrev x_pv (u : XS) : Nat → Int32 := u.2.2.1.2.2.2
abbrev xs_pv (u : XS) (x : Nat → Int32) : XS := (u.1, u.2.1, (u.2.2.1.1, u.2.2.1.2.1, u.2.2.1.2.2.1, x), u.2.2.2.1, u.2.2.2.2)
abbrev x_rc (u : XS) : Nat := u.2.2.2.1.1
abbrev xs_rc (u : XS) (x : Nat) : XS := (u.1, u.2.1, u.2.2.1, (x, u.2.2.2.1.2.1, u.2.2.2.1.2.2.1, u.2.2.2.1.2.2.2.1, u.2.2.2.1.2.2.2.2.1, u.2.2.2.1.2.2.2.2.2.1, u.2.2.2.1.2.2.2.2.2.2.1, u.2.2.2.1.2.2.2.2.2.2.2), u.2.2.2.2)
abbrev x_kc (u : XS) : Nat := u.2.2.2.1.2.1
abbrev xs_kc (u : XS) (x : Nat) : XS := (u.1, u.2.1, u.2.2.1, (u.2.2.2.1.1, x, u.2.2.2.1.2.2.1, u.2.2.2.1.2.2.2.1, u.2.2.2.1.2.2.2.2.1, u.2.2.2.1.2.2.2.2.2.1, u.2.2.2.1.2.2.2.2.2.2.1, u.2.2.2.1.2.2.2.2.2.2.2), u.2.2.2.2)
abbrev x_pc (u : XS) : Nat := u.2.2.2.1.2.2.1
abbrev xs_pc (u : XS) (x : Nat) : XS := (u.1, u.2.1, u.2.2.1, (u.2.2.2.1.1, u.2.2.2.1.2.1, x, u.2.2.2.1.2.2.2.1, u.2.2.2.1.2.2.2.2.1, u.2.2.2.1.2.2.2.2.2.1, u.2.2.2.1.2.2.2.2.2.2.1, u.2.2.2.1.2.2.2.2.2.2.2), u.2.2.2.2)
abbrev x_piv (u : XS) : Int64 := u.2.2.2.1.2.2.2.1
abbrev xs_piv (u : XS) (x : Int64) : XS := (u.1, u.2.1, u.2.2.1, (u.2.2.2.1.1, u.2.2.2.1.2.1, u.2.2.2.1.2.2.1, x, u.2.2.2.1.2.2.2.2.1, u.2.2.2.1.2.2.2.2.2.1, u.2.2.2.1.2.2.2.2.2.2.1, u.2.2.2.1.2.2.2.2.2.2.2), u.2.2.2.2)
abbrev x_row (u : XS) : Nat → Nat → Int64 := u.2.2.2.1.2.2.2.2.1
abbrev xs_row (u : XS) (x : Nat → Nat → Int64) : XS := (u.1, u.2.1, u.2.2.1, (u.2.2.2.1.1, u.2.2.2.1.2.1, u.2.2.2.1.2.2.1, u.2.2.2.1.2.2.2.1, x, u.2.2.2.1.2.2.2.2.2.1, u.2.2.2.1.2.2.2.2.2.2.1, u.2.2.2.1.2.2.2.2.2.2.2), u.2.2.2.2)
abbrev x_rop (u : XS) : Nat → Option Nat := u.2.2.2.1.2.2.2.2.2.1
abbrev xs_rop (u : XS) (x : Nat → Option Nat) : XS := (u.1, u.2.1, u.2.2.1, (u.2.2.2.1.1, u.2.2.2.1.2.1, u.2.2.2.1.2.2.1, u.2.2.2.1.2.2.2.1, u.2.2.2.1.2.2.2.2.1, x, u.2.2.2.1.2.2.2.2.2.2.1, u.2.2.2.1.2.2.2.2.2.2.2), u.2.2.2.2)
abbrev x_por (u : XS) : Nat → Option Nat := u.2.2.2.1.2.2.2.2.2.2.1
abbrev xs_por (u : XS) (x : Nat → Option Nat) : XS := (u.1, u.2.1, u.2.2.1, (u.2.2.2.1.1, u.2.2.2.1.2.1, u.2.2.2.1.2.2.1, u.2.2.2.1.2.2.2.1, u.2.2.2.1.2.2.2.2.1, u.2.2.2.1.2.2.2.2.2.1, x, u.2.2.2.1.2.2.2.2.2.2.2), u.2.2.2.2)
abbrev x_kn (u : XS) : Nat → Bool := u.2.2.2.1.2.2.2.2.2.2.2
abbrev xs_kn (u : XS) (x : Nat → Bool) : XS := (u.1, u.2.1, u.2.2.1, (u.2.2.2.1.1, u.2.2.2.1.2.1, u.2.2.2.1.2.2.1, u.2.2.2.1.2.2.2.1, u.2.2.2.1.2.2.2.2.1, u.2.2.2.1.2.2.2.2.2.1, u.2.2.2.1.2.2.2.2.2.2.1, x), u.2.2.2.2)
abbrev x_val (u : XS) : Nat → Int64 := u.2.2.2.2.1
abbrev xs_val (u : XS) (x : Nat → Int64) : XS := (u.1, u.2.1, u.2.2.1, u.2.2.2.1, (x, u.2.2.2.2.2))
abbrev x_rem (u : XS) : Nat → Int64 := u.2.2.2.2.2
abbrev xs_rem (u : XS) (x : Nat → Int64) : XS := (u.1, u.2.1, u.2.2.1, u.2.2.2.1, (u.2.2.2.2.1, x))
abbrev MN : Type := (Nat) × (Nat) × (Nat → Nat) × (Nat → Nat) × (Nat → Nat)
abbrev MD : Type := (Nat → Int32)
abbrev MM : Type := (Nat → Int32) × (Nat → Int32) × (Nat → Int32) × (Nat → Bool) × (Nat → Int32)
abbrev MG : Type := (Nat → Int64)
abbrev MR : Type := (Nat → Nat) × (Nat → Nat)
abbrev ME : Type := (Nat → Int64) × (Nat) × (Nat) × (Nat → Option Nat)
abbrev MB : Type := (Nat → Bool) × (Nat → Int64)
abbrev MS : Type := MN × MD × MM × MG × MR × ME × MB
abbrev w_n (u : MS) : Nat := u.1.1
abbrev ws_n (u : MS) (x : Nat) : MS := ((x, u.1.2.1, u.1.2.2.1, u.1.2.2.2.1, u.1.2.2.2.2), u.2.1, u.2.2.1, u.2.2.2.1, u.2.2.2.2.1, u.2.2.2.2.2.1, u.2.2.2.2.2.2)
abbrev w_m (u : MS) : Nat := u.1.2.1
abbrev ws_m (u : MS) (x : Nat) : MS := ((u.1.1, x, u.1.2.2.1, u.1.2.2.2.1, u.1.2.2.2.2), u.2.1, u.2.2.1, u.2.2.2.1, u.2.2.2.2.1, u.2.2.2.2.2.1, u.2.2.2.2.2.2)
abbrev w_src (u : MS) : Nat → Nat := u.1.2.2.1
abbrev ws_src (u : MS) (x : Nat → Nat) : MS := ((u.1.1, u.1.2.1, x, u.1.2.2.2.1, u.1.2.2.2.2), u.2.1, u.2.2.1, u.2.2.2.1, u.2.2.2.2.1, u.2.2.2.2.2.1, u.2.2.2.2.2.2)
abbrev w_tgt (u : MS) : Nat → Nat := u.1.2.2.2.1
abbrev ws_tgt (u : MS) (x : Nat → Nat) : MS := ((u.1.1, u.1.2.1, u.1.2.2.1, x, u.1.2.2.2.2), u.2.1, u.2.2.1, u.2.2.2.1, u.2.2.2.2.1, u.2.2.2.2.2.1, u.2.2.2.2.2.2)
abbrev w_met (u : MS) : Nat → Nat := u.1.2.2.2.2
abbrev ws_met (u : MS) (x : Nat → Nat) : MS := ((u.1.1, u.1.2.1, u.1.2.2.1, u.1.2.2.2.1, x), u.2.1, u.2.2.1, u.2.2.2.1, u.2.2.2.2.1, u.2.2.2.2.2.1, u.2.2.2.2.2.2)
abbrev w_dem (u : MS) : Nat → Int32 := u.2.1
abbrev ws_dem (u : MS) (x : Nat → Int32) : MS := (u.1, x, u.2.2.1, u.2.2.2.1, u.2.2.2.2.1, u.2.2.2.2.2.1, u.2.2.2.2.2.2)
abbrev w_load (u : MS) : Nat → Int32 := u.2.2.1.1
abbrev ws_load (u : MS) (x : Nat → Int32) : MS := (u.1, u.2.1, (x, u.2.2.1.2.1, u.2.2.1.2.2.1, u.2.2.1.2.2.2.1, u.2.2.1.2.2.2.2), u.2.2.2.1, u.2.2.2.2.1, u.2.2.2.2.2.1, u.2.2.2.2.2.2)
abbrev w_out (u : MS) : Nat → Int32 := u.2.2.1.2.1
abbrev ws_out (u : MS) (x : Nat → Int32) : MS := (u.1, u.2.1, (u.2.2.1.1, x, u.2.2.1.2.2.1, u.2.2.1.2.2.2.1, u.2.2.1.2.2.2.2), u.2.2.2.1, u.2.2.2.2.1, u.2.2.2.2.2.1, u.2.2.2.2.2.2)
abbrev w_inn (u : MS) : Nat → Int32 := u.2.2.1.2.2.1
abbrev ws_inn (u : MS) (x : Nat → Int32) : MS := (u.1, u.2.1, (u.2.2.1.1, u.2.2.1.2.1, x, u.2.2.1.2.2.2.1, u.2.2.1.2.2.2.2), u.2.2.2.1, u.2.2.2.2.1, u.2.2.2.2.2.1, u.2.2.2.2.2.2)
abbrev w_ism (u : MS) : Nat → Bool := u.2.2.1.2.2.2.1
abbrev ws_ism (u : MS) (x : Nat → Bool) : MS := (u.1, u.2.1, (u.2.2.1.1, u.2.2.1.2.1, u.2.2.1.2.2.1, x, u.2.2.1.2.2.2.2), u.2.2.2.1, u.2.2.2.2.1, u.2.2.2.2.2.1, u.2.2.2.2.2.2)
abbrev w_mea (u : MS) : Nat → Int32 := u.2.2.1.2.2.2.2
abbrev ws_mea (u : MS) (x : Nat → Int32) : MS := (u.1, u.2.1, (u.2.2.1.1, u.2.2.1.2.1, u.2.2.1.2.2.1, u.2.2.1.2.2.2.1, x), u.2.2.2.1, u.2.2.2.2.1, u.2.2.2.2.2.1, u.2.2.2.2.2.2)
abbrev w_gue (u : MS) : Nat → Int64 := u.2.2.2.1
abbrev ws_gue (u : MS) (x : Nat → Int64) : MS := (u.1, u.2.1, u.2.2.1, x, u.2.2.2.2.1, u.2.2.2.2.2.1, u.2.2.2.2.2.2)
abbrev w_dist (u : MS) : Nat → Nat := u.2.2.2.2.1.1
abbrev ws_dist (u : MS) (x : Nat → Nat) : MS := (u.1, u.2.1, u.2.2.1, u.2.2.2.1, (x, u.2.2.2.2.1.2), u.2.2.2.2.2.1, u.2.2.2.2.2.2)
abbrev w_bits (u : MS) : Nat → Nat := u.2.2.2.2.1.2
abbrev ws_bits (u : MS) (x : Nat → Nat) : MS := (u.1, u.2.1, u.2.2.1, u.2.2.2.1, (u.2.2.2.2.1.1, x), u.2.2.2.2.2.1, u.2.2.2.2.2.2)
abbrev w_row (u : MS) : Nat → Int64 := u.2.2.2.2.2.1.1
abbrev ws_row (u : MS) (x : Nat → Int64) : MS := (u.1, u.2.1, u.2.2.1, u.2.2.2.1, u.2.2.2.2.1, (x, u.2.2.2.2.2.1.2.1, u.2.2.2.2.2.1.2.2.1, u.2.2.2.2.2.1.2.2.2), u.2.2.2.2.2.2)
abbrev w_rows (u : MS) : Nat := u.2.2.2.2.2.1.2.1
abbrev ws_rows (u : MS) (x : Nat) : MS := (u.1, u.2.1, u.2.2.1, u.2.2.2.1, u.2.2.2.2.1, (u.2.2.2.2.2.1.1, x, u.2.2.2.2.2.1.2.2.1, u.2.2.2.2.2.1.2.2.2), u.2.2.2.2.2.2)
abbrev w_kn (u : MS) : Nat := u.2.2.2.2.2.1.2.2.1
abbrev ws_kn (u : MS) (x : Nat) : MS := (u.1, u.2.1, u.2.2.1, u.2.2.2.1, u.2.2.2.2.1, (u.2.2.2.2.2.1.1, u.2.2.2.2.2.1.2.1, x, u.2.2.2.2.2.1.2.2.2), u.2.2.2.2.2.2)
abbrev w_pr (u : MS) : Nat → Option Nat := u.2.2.2.2.2.1.2.2.2
abbrev ws_pr (u : MS) (x : Nat → Option Nat) : MS := (u.1, u.2.1, u.2.2.1, u.2.2.2.1, u.2.2.2.2.1, (u.2.2.2.2.2.1.1, u.2.2.2.2.2.1.2.1, u.2.2.2.2.2.1.2.2.1, x), u.2.2.2.2.2.2)
abbrev w_was (u : MS) : Nat → Bool := u.2.2.2.2.2.2.1
abbrev ws_was (u : MS) (x : Nat → Bool) : MS := (u.1, u.2.1, u.2.2.1, u.2.2.2.1, u.2.2.2.2.1, u.2.2.2.2.2.1, (x, u.2.2.2.2.2.2.2))
abbrev w_bef (u : MS) : Nat → Int64 := u.2.2.2.2.2.2.2
abbrev ws_bef (u : MS) (x : Nat → Int64) : MS := (u.1, u.2.1, u.2.2.1, u.2.2.2.1, u.2.2.2.2.1, u.2.2.2.2.2.1, (u.2.2.2.2.2.2.1, x))
/-- where a world lies: the classes, the array classes, the addresses of its cells and of the rows of its grids -/
abbrev yG : Type := va_G × (Nat → ClassId) × (Nat → Nat) × (Nat → Nat) × (Nat → Nat)
abbrev yC (Y : yG) : Nat → ClassId := Y.2.1
abbrev yA (Y : yG) : Nat → Nat := Y.2.2.1
abbrev yR (Y : yG) : Nat → Nat := Y.2.2.2.1
abbrev yW (Y : yG) : Nat → Nat := Y.2.2.2.2
abbrev yT (Y : yG) : List (ClassId × FieldType) := [(yC Y 0, .int), (yC Y 1, .long), (yC Y 2, .boolean), (yC Y 3, .array .int), (yC Y 4, .array .long)]
def cX (Y : yG) (u : XS) : va_W :=
  (yA Y 0, .inr (4, [.ref (yA Y 1), .ref (yA Y 2), .ref (yA Y 3), .ref (yA Y 4), .ref (yA Y 5)])) ::
  (yA Y 1, .inr (3, [.int (nI (x_n u)), .int (nI (x_m u)), .ref (yA Y 6), .ref (yA Y 7), .ref (yA Y 8), .ref (yA Y 9), .ref (yA Y 10), .ref (yA Y 11)])) ::
  (yA Y 2, .inl (yC Y 0, 25, .inl (x_dem u))) ::
  (yA Y 3, .inr (2, [.ref (yA Y 12), .ref (yA Y 13), .ref (yA Y 14), .ref (yA Y 15)])) ::
  (yA Y 4, .inr (0, [.int (nI (x_rc u)), .int (nI (x_kc u)), .int (nI (x_pc u)), .long (x_piv u), .ref (yA Y 16), .ref (yA Y 17), .ref (yA Y 18), .ref (yA Y 19)])) ::
  (yA Y 5, .inr (1, [.ref (yA Y 20), .ref (yA Y 21)])) ::
  (yA Y 6, .inl (yC Y 0, 12, .inl (fun j => nI (x_src u j)))) ::
  (yA Y 7, .inl (yC Y 0, 12, .inl (fun j => nI (x_tgt u j)))) ::
  (yA Y 8, .inl (yC Y 0, 12, .inl (fun j => nI (x_met u j)))) ::
  (yA Y 9, .inl (yC Y 0, 25, .inl (fun j => nI (x_len u j)))) ::
  (yA Y 10, .inl (yC Y 3, 25, .inr (.inr (.inr (.inr (fun i => if i < 25 then some (yR Y i) else none)))))) ::
  (yA Y 11, .inl (yC Y 0, 5, .inl (fun j => nI (x_cost u j)))) ::
  (yA Y 12, .inl (yC Y 0, 12, .inl (x_load u))) ::
  (yA Y 13, .inl (yC Y 0, 5, .inl (x_out u))) ::
  (yA Y 14, .inl (yC Y 0, 5, .inl (x_inn u))) ::
  (yA Y 15, .inl (yC Y 0, 25, .inl (x_pv u))) ::
  (yA Y 16, .inl (yC Y 4, 12, .inr (.inr (.inr (.inr (fun i => if i < 12 then some (yW Y i) else none)))))) ::
  (yA Y 17, .inl (yC Y 0, 25, .inl (fun j => oI (-1) (x_rop u j)))) ::
  (yA Y 18, .inl (yC Y 0, 12, .inl (fun j => oI (-1) (x_por u j)))) ::
  (yA Y 19, .inl (yC Y 2, 25, .inl (fun j => bI (x_kn u j)))) ::
  (yA Y 20, .inl (yC Y 1, 25, .inr (.inl (x_val u)))) ::
  (yA Y 21, .inl (yC Y 1, 25, .inr (.inl (x_rem u)))) ::
  ((List.range 25).map (fun i => ((yR Y i, .inl (yC Y 0, 4, .inl (fun j => nI (x_lnk u i j)))) : Nat × va_E)) ++ (List.range 12).map (fun i => ((yW Y i, .inl (yC Y 1, 26, .inr (.inl (x_row u i)))) : Nat × va_E)))
def cM (Y : yG) (u : MS) : va_W :=
  (yA Y 0, .inr (5, [.int (nI (w_n u)), .int (nI (w_m u)), .ref (yA Y 1), .ref (yA Y 2), .ref (yA Y 3), .ref (yA Y 4), .ref (yA Y 5), .ref (yA Y 6), .ref (yA Y 7), .ref (yA Y 8), .ref (yA Y 9), .ref (yA Y 10), .ref (yA Y 11), .ref (yA Y 12), .ref (yA Y 13), .int (nI (w_rows u)), .int (nI (w_kn u)), .ref (yA Y 14), .ref (yA Y 15), .ref (yA Y 16)])) ::
  (yA Y 1, .inl (yC Y 0, 12, .inl (fun j => nI (w_src u j)))) ::
  (yA Y 2, .inl (yC Y 0, 12, .inl (fun j => nI (w_tgt u j)))) ::
  (yA Y 3, .inl (yC Y 0, 12, .inl (fun j => nI (w_met u j)))) ::
  (yA Y 4, .inl (yC Y 0, 25, .inl (w_dem u))) ::
  (yA Y 5, .inl (yC Y 0, 12, .inl (w_load u))) ::
  (yA Y 6, .inl (yC Y 0, 5, .inl (w_out u))) ::
  (yA Y 7, .inl (yC Y 0, 5, .inl (w_inn u))) ::
  (yA Y 8, .inl (yC Y 2, 25, .inl (fun j => bI (w_ism u j)))) ::
  (yA Y 9, .inl (yC Y 0, 25, .inl (w_mea u))) ::
  (yA Y 10, .inl (yC Y 1, 25, .inr (.inl (w_gue u)))) ::
  (yA Y 11, .inl (yC Y 0, 25, .inl (fun j => nI (w_dist u j)))) ::
  (yA Y 12, .inl (yC Y 0, 25, .inl (fun j => nI (w_bits u j)))) ::
  (yA Y 13, .inl (yC Y 1, 312, .inr (.inl (w_row u)))) ::
  (yA Y 14, .inl (yC Y 0, 25, .inl (fun j => oI (-7) (w_pr u j)))) ::
  (yA Y 15, .inl (yC Y 2, 25, .inl (fun j => bI (w_was u j)))) ::
  (yA Y 16, .inl (yC Y 1, 25, .inr (.inl (w_bef u)))) ::
  ([])
abbrev nX : List vN := [(RX3, 71, yX4_slotOf, "TrafficMatrix"), (RX1, 53, yX4_slotOf, "TrafficMatrix")]
abbrev gX (Y : yG) : vG XS := (Y.1, yT Y, nX, cX Y)
abbrev gM (Y : yG) : vG MS := (Y.1, yT Y, [], cM Y)
theorem cX_geo (Y : yG) (u v : XS) : ((gX Y).2.2.2 v).map Prod.fst = ((gX Y).2.2.2 u).map Prod.fst := by
  show (cX Y v).map Prod.fst = (cX Y u).map Prod.fst
  simp [cX, List.map_append, List.map_map, Function.comp_def]
theorem cM_geo (Y : yG) (u v : MS) : ((gM Y).2.2.2 v).map Prod.fst = ((gM Y).2.2.2 u).map Prod.fst := rfl
theorem cX_lnk (Y : yG) (u : XS) {i : Nat} (hi : i < 25) : (cX Y u)[i + 22]? = some (yR Y i, .inl (yC Y 0, 4, .inl (fun j => nI (x_lnk u i j)))) := by
  show ((List.range 25).map _ ++ (List.range 12).map _)[i]? = _
  rw [List.getElem?_append_left (by simpa using hi)]
  simp [hi]
theorem cX_row (Y : yG) (u : XS) {i : Nat} (hi : i < 12) : (cX Y u)[i + 47]? = some (yW Y i, .inl (yC Y 1, 26, .inr (.inl (x_row u i)))) := by
  show ((List.range 25).map _ ++ (List.range 12).map _)[i + 25]? = _
  rw [List.getElem?_append_right (by simp)]
  simp [hi]
theorem set_map {α : Type} (f : Nat → α) (n i : Nat) (x : α) : ((List.range n).map f).set i x = (List.range n).map (va_up f i x) := by
  apply List.ext_getElem?
  intro j
  rw [List.getElem?_set, List.getElem?_map, List.getElem?_map]
  by_cases hj : j < n
  · rw [List.getElem?_range hj]
    by_cases e : i = j
    · subst e
      simp [va_up, hj]
    · have e2 : ¬ j = i := fun h => e h.symm
      simp [va_up, e, e2]
  · have h0 : (List.range n)[j]? = none := List.getElem?_eq_none (by simp; omega)
    rw [h0]
    by_cases e : i = j
    · subst e
      simp [hj]
    · simp [e]
theorem cX_lnkS (Y : yG) (u : XS) {i : Nat} (hi : i < 25) (j x : Nat) : (cX Y u).set (i + 22) (yR Y i, .inl (yC Y 0, 4, .inl (upd (fun j => nI (x_lnk u i j)) j (nI x)))) = cX Y (xs_lnk u (va_up (x_lnk u) i (va_up (x_lnk u i) j x))) := by
  unfold cX
  simp only [List.set_cons_succ]
  congr 22
  rw [List.set_append_left _ _ (by simpa using hi), set_map]
  congr 1
  apply List.map_congr_left
  intro t _
  show va_up _ i _ t = ((yR Y t, .inl (yC Y 0, 4, .inl (fun j1 => nI (va_up (x_lnk u) i (va_up (x_lnk u i) j x) t j1)))) : Nat × va_E)
  by_cases e : t = i
  · subst e
    simp only [va_up_self, up_nI]
  · simp only [va_up_ne _ _ e]
theorem cX_rowS (Y : yG) (u : XS) {i : Nat} (hi : i < 12) (j : Nat) (x : Int64) : (cX Y u).set (i + 47) (yW Y i, .inl (yC Y 1, 26, .inr (.inl (vp_updL (x_row u i) j x)))) = cX Y (xs_row u (va_up (x_row u) i (va_up (x_row u i) j x))) := by
  unfold cX
  rw [show i + 47 = (i + 25) + 22 from rfl]
  simp only [List.set_cons_succ]
  congr 22
  rw [List.set_append_right _ _ (by simp)]
  simp only [List.length_map, List.length_range, Nat.add_sub_cancel]
  rw [set_map]
  congr 1
  apply List.map_congr_left
  intro t _
  show va_up _ i _ t = ((yW Y t, .inl (yC Y 1, 26, .inr (.inl (va_up (x_row u) i (va_up (x_row u i) j x) t)))) : Nat × va_E)
  by_cases e : t = i
  · subst e
    simp only [va_up_self, up_l]
  · simp only [va_up_ne _ _ e]

section WX
variable {K : vK} {Y : yG} {cc : ByteArray} {nL : Nat} {own : String} {Ts : List Cond} {rm : Room} {u : XS} {lv : List (Nat × Value)} {st : List Value} {pc : Nat}
theorem gX_network (n : Nat) (hE : eV K (gX Y) cc nL own Ts rm) {index : Nat} (hin : ∀ w ∈ u_ws RX4 TX4 5, w ∈ Ts) (hlink : Cond.fieldLink own index "TrafficMatrix" "network" "LTrafficMatrix$Network;" ∈ Ts) (hd : decode cc pc = .ok (.getfield index, 3)) (hn : pc + 3 = n) (k : vV K (gX Y) u lv (.ref (yA Y 1) :: st) n) : vV K (gX Y) u lv (.ref (yA Y 0) :: st) pc := v_get n hE hin 0 rfl rfl 0 (by decide) hlink rfl rfl hd hn k
theorem gX_demands (n : Nat) (hE : eV K (gX Y) cc nL own Ts rm) {index : Nat} (hin : ∀ w ∈ u_ws RX4 TX4 5, w ∈ Ts) (hlink : Cond.fieldLink own index "TrafficMatrix" "demands" "[I" ∈ Ts) (hd : decode cc pc = .ok (.getfield index, 3)) (hn : pc + 3 = n) (k : vV K (gX Y) u lv (.ref (yA Y 2) :: st) n) : vV K (gX Y) u lv (.ref (yA Y 0) :: st) pc := v_get n hE hin 0 rfl rfl 1 (by decide) hlink rfl rfl hd hn k
theorem gX_measurements (n : Nat) (hE : eV K (gX Y) cc nL own Ts rm) {index : Nat} (hin : ∀ w ∈ u_ws RX4 TX4 5, w ∈ Ts) (hlink : Cond.fieldLink own index "TrafficMatrix" "measurements" "LTrafficMatrix$Measurements;" ∈ Ts) (hd : decode cc pc = .ok (.getfield index, 3)) (hn : pc + 3 = n) (k : vV K (gX Y) u lv (.ref (yA Y 3) :: st) n) : vV K (gX Y) u lv (.ref (yA Y 0) :: st) pc := v_get n hE hin 0 rfl rfl 2 (by decide) hlink rfl rfl hd hn k
theorem gX_equations (n : Nat) (hE : eV K (gX Y) cc nL own Ts rm) {index : Nat} (hin : ∀ w ∈ u_ws RX4 TX4 5, w ∈ Ts) (hlink : Cond.fieldLink own index "TrafficMatrix" "equations" "LTrafficMatrix$Equations;" ∈ Ts) (hd : decode cc pc = .ok (.getfield index, 3)) (hn : pc + 3 = n) (k : vV K (gX Y) u lv (.ref (yA Y 4) :: st) n) : vV K (gX Y) u lv (.ref (yA Y 0) :: st) pc := v_get n hE hin 0 rfl rfl 3 (by decide) hlink rfl rfl hd hn k
theorem gX_estimates (n : Nat) (hE : eV K (gX Y) cc nL own Ts rm) {index : Nat} (hin : ∀ w ∈ u_ws RX4 TX4 5, w ∈ Ts) (hlink : Cond.fieldLink own index "TrafficMatrix" "estimates" "LTrafficMatrix$Estimates;" ∈ Ts) (hd : decode cc pc = .ok (.getfield index, 3)) (hn : pc + 3 = n) (k : vV K (gX Y) u lv (.ref (yA Y 5) :: st) n) : vV K (gX Y) u lv (.ref (yA Y 0) :: st) pc := v_get n hE hin 0 rfl rfl 4 (by decide) hlink rfl rfl hd hn k
theorem gX_nodeCount (n : Nat) (hE : eV K (gX Y) cc nL own Ts rm) {index : Nat} (hin : ∀ w ∈ u_ws RX3 TX3 8, w ∈ Ts) (hlink : Cond.fieldLink own index "TrafficMatrix$Network" "nodeCount" "I" ∈ Ts) (hd : decode cc pc = .ok (.getfield index, 3)) (hn : pc + 3 = n) (k : vV K (gX Y) u lv (.int (nI (x_n u)) :: st) n) : vV K (gX Y) u lv (.ref (yA Y 1) :: st) pc := v_get n hE hin 1 rfl rfl 0 (by decide) hlink rfl rfl hd hn k
theorem pX_nodeCount (n : Nat) (hE : eV K (gX Y) cc nL own Ts rm) {index : Nat} {x : Nat} (hin : ∀ w ∈ u_ws RX3 TX3 8, w ∈ Ts) (hlink : Cond.fieldLink own index "TrafficMatrix$Network" "nodeCount" "I" ∈ Ts) (hd : decode cc pc = .ok (.putfield index, 3)) (hn : pc + 3 = n) (k : vV K (gX Y) (xs_n u x) lv st n) : vV K (gX Y) u lv (.int (nI x) :: .ref (yA Y 1) :: st) pc := v_put n hE hin tyX3 tyX3_ok nmX3 1 rfl rfl 0 (by decide) hlink rfl rfl (ty := .int) (by decide +kernel) rfl rfl (Nat.le_of_ble_eq_true rfl) rfl hd hn k
theorem gX_linkCount (n : Nat) (hE : eV K (gX Y) cc nL own Ts rm) {index : Nat} (hin : ∀ w ∈ u_ws RX3 TX3 8, w ∈ Ts) (hlink : Cond.fieldLink own index "TrafficMatrix$Network" "linkCount" "I" ∈ Ts) (hd : decode cc pc = .ok (.getfield index, 3)) (hn : pc + 3 = n) (k : vV K (gX Y) u lv (.int (nI (x_m u)) :: st) n) : vV K (gX Y) u lv (.ref (yA Y 1) :: st) pc := v_get n hE hin 1 rfl rfl 1 (by decide) hlink rfl rfl hd hn k
theorem pX_linkCount (n : Nat) (hE : eV K (gX Y) cc nL own Ts rm) {index : Nat} {x : Nat} (hin : ∀ w ∈ u_ws RX3 TX3 8, w ∈ Ts) (hlink : Cond.fieldLink own index "TrafficMatrix$Network" "linkCount" "I" ∈ Ts) (hd : decode cc pc = .ok (.putfield index, 3)) (hn : pc + 3 = n) (k : vV K (gX Y) (xs_m u x) lv st n) : vV K (gX Y) u lv (.int (nI x) :: .ref (yA Y 1) :: st) pc := v_put n hE hin tyX3 tyX3_ok nmX3 1 rfl rfl 1 (by decide) hlink rfl rfl (ty := .int) (by decide +kernel) rfl rfl (Nat.le_of_ble_eq_true rfl) rfl hd hn k
theorem gX_sources (n : Nat) (hE : eV K (gX Y) cc nL own Ts rm) {index : Nat} (hin : ∀ w ∈ u_ws RX3 TX3 8, w ∈ Ts) (hlink : Cond.fieldLink own index "TrafficMatrix$Network" "sources" "[I" ∈ Ts) (hd : decode cc pc = .ok (.getfield index, 3)) (hn : pc + 3 = n) (k : vV K (gX Y) u lv (.ref (yA Y 6) :: st) n) : vV K (gX Y) u lv (.ref (yA Y 1) :: st) pc := v_get n hE hin 1 rfl rfl 2 (by decide) hlink rfl rfl hd hn k
theorem gX_targets (n : Nat) (hE : eV K (gX Y) cc nL own Ts rm) {index : Nat} (hin : ∀ w ∈ u_ws RX3 TX3 8, w ∈ Ts) (hlink : Cond.fieldLink own index "TrafficMatrix$Network" "targets" "[I" ∈ Ts) (hd : decode cc pc = .ok (.getfield index, 3)) (hn : pc + 3 = n) (k : vV K (gX Y) u lv (.ref (yA Y 7) :: st) n) : vV K (gX Y) u lv (.ref (yA Y 1) :: st) pc := v_get n hE hin 1 rfl rfl 3 (by decide) hlink rfl rfl hd hn k
theorem gX_metrics (n : Nat) (hE : eV K (gX Y) cc nL own Ts rm) {index : Nat} (hin : ∀ w ∈ u_ws RX3 TX3 8, w ∈ Ts) (hlink : Cond.fieldLink own index "TrafficMatrix$Network" "metrics" "[I" ∈ Ts) (hd : decode cc pc = .ok (.getfield index, 3)) (hn : pc + 3 = n) (k : vV K (gX Y) u lv (.ref (yA Y 8) :: st) n) : vV K (gX Y) u lv (.ref (yA Y 1) :: st) pc := v_get n hE hin 1 rfl rfl 4 (by decide) hlink rfl rfl hd hn k
theorem gX_routeLengths (n : Nat) (hE : eV K (gX Y) cc nL own Ts rm) {index : Nat} (hin : ∀ w ∈ u_ws RX3 TX3 8, w ∈ Ts) (hlink : Cond.fieldLink own index "TrafficMatrix$Network" "routeLengths" "[I" ∈ Ts) (hd : decode cc pc = .ok (.getfield index, 3)) (hn : pc + 3 = n) (k : vV K (gX Y) u lv (.ref (yA Y 9) :: st) n) : vV K (gX Y) u lv (.ref (yA Y 1) :: st) pc := v_get n hE hin 1 rfl rfl 5 (by decide) hlink rfl rfl hd hn k
theorem gX_routeLinks (n : Nat) (hE : eV K (gX Y) cc nL own Ts rm) {index : Nat} (hin : ∀ w ∈ u_ws RX3 TX3 8, w ∈ Ts) (hlink : Cond.fieldLink own index "TrafficMatrix$Network" "routeLinks" "[[I" ∈ Ts) (hd : decode cc pc = .ok (.getfield index, 3)) (hn : pc + 3 = n) (k : vV K (gX Y) u lv (.ref (yA Y 10) :: st) n) : vV K (gX Y) u lv (.ref (yA Y 1) :: st) pc := v_get n hE hin 1 rfl rfl 6 (by decide) hlink rfl rfl hd hn k
theorem gX_costs (n : Nat) (hE : eV K (gX Y) cc nL own Ts rm) {index : Nat} (hin : ∀ w ∈ u_ws RX3 TX3 8, w ∈ Ts) (hlink : Cond.fieldLink own index "TrafficMatrix$Network" "costs" "[I" ∈ Ts) (hd : decode cc pc = .ok (.getfield index, 3)) (hn : pc + 3 = n) (k : vV K (gX Y) u lv (.ref (yA Y 11) :: st) n) : vV K (gX Y) u lv (.ref (yA Y 1) :: st) pc := v_get n hE hin 1 rfl rfl 7 (by decide) hlink rfl rfl hd hn k
theorem gX_loads (n : Nat) (hE : eV K (gX Y) cc nL own Ts rm) {index : Nat} (hin : ∀ w ∈ u_ws RX2 TX2 4, w ∈ Ts) (hlink : Cond.fieldLink own index "TrafficMatrix$Measurements" "loads" "[I" ∈ Ts) (hd : decode cc pc = .ok (.getfield index, 3)) (hn : pc + 3 = n) (k : vV K (gX Y) u lv (.ref (yA Y 12) :: st) n) : vV K (gX Y) u lv (.ref (yA Y 3) :: st) pc := v_get n hE hin 3 rfl rfl 0 (by decide) hlink rfl rfl hd hn k
theorem gX_outTotals (n : Nat) (hE : eV K (gX Y) cc nL own Ts rm) {index : Nat} (hin : ∀ w ∈ u_ws RX2 TX2 4, w ∈ Ts) (hlink : Cond.fieldLink own index "TrafficMatrix$Measurements" "outTotals" "[I" ∈ Ts) (hd : decode cc pc = .ok (.getfield index, 3)) (hn : pc + 3 = n) (k : vV K (gX Y) u lv (.ref (yA Y 13) :: st) n) : vV K (gX Y) u lv (.ref (yA Y 3) :: st) pc := v_get n hE hin 3 rfl rfl 1 (by decide) hlink rfl rfl hd hn k
theorem gX_inTotals (n : Nat) (hE : eV K (gX Y) cc nL own Ts rm) {index : Nat} (hin : ∀ w ∈ u_ws RX2 TX2 4, w ∈ Ts) (hlink : Cond.fieldLink own index "TrafficMatrix$Measurements" "inTotals" "[I" ∈ Ts) (hd : decode cc pc = .ok (.getfield index, 3)) (hn : pc + 3 = n) (k : vV K (gX Y) u lv (.ref (yA Y 14) :: st) n) : vV K (gX Y) u lv (.ref (yA Y 3) :: st) pc := v_get n hE hin 3 rfl rfl 2 (by decide) hlink rfl rfl hd hn k
theorem gX_pairValues (n : Nat) (hE : eV K (gX Y) cc nL own Ts rm) {index : Nat} (hin : ∀ w ∈ u_ws RX2 TX2 4, w ∈ Ts) (hlink : Cond.fieldLink own index "TrafficMatrix$Measurements" "pairValues" "[I" ∈ Ts) (hd : decode cc pc = .ok (.getfield index, 3)) (hn : pc + 3 = n) (k : vV K (gX Y) u lv (.ref (yA Y 15) :: st) n) : vV K (gX Y) u lv (.ref (yA Y 3) :: st) pc := v_get n hE hin 3 rfl rfl 3 (by decide) hlink rfl rfl hd hn k
theorem gX_rowCount (n : Nat) (hE : eV K (gX Y) cc nL own Ts rm) {index : Nat} (hin : ∀ w ∈ u_ws RX0 TX0 8, w ∈ Ts) (hlink : Cond.fieldLink own index "TrafficMatrix$Equations" "rowCount" "I" ∈ Ts) (hd : decode cc pc = .ok (.getfield index, 3)) (hn : pc + 3 = n) (k : vV K (gX Y) u lv (.int (nI (x_rc u)) :: st) n) : vV K (gX Y) u lv (.ref (yA Y 4) :: st) pc := v_get n hE hin 4 rfl rfl 0 (by decide) hlink rfl rfl hd hn k
theorem pX_rowCount (n : Nat) (hE : eV K (gX Y) cc nL own Ts rm) {index : Nat} {x : Nat} (hin : ∀ w ∈ u_ws RX0 TX0 8, w ∈ Ts) (hlink : Cond.fieldLink own index "TrafficMatrix$Equations" "rowCount" "I" ∈ Ts) (hd : decode cc pc = .ok (.putfield index, 3)) (hn : pc + 3 = n) (k : vV K (gX Y) (xs_rc u x) lv st n) : vV K (gX Y) u lv (.int (nI x) :: .ref (yA Y 4) :: st) pc := v_put n hE hin tyX0 tyX0_ok nmX0 4 rfl rfl 0 (by decide) hlink rfl rfl (ty := .int) (by decide +kernel) rfl rfl (Nat.le_of_ble_eq_true rfl) rfl hd hn k
theorem gX_knownCount (n : Nat) (hE : eV K (gX Y) cc nL own Ts rm) {index : Nat} (hin : ∀ w ∈ u_ws RX0 TX0 8, w ∈ Ts) (hlink : Cond.fieldLink own index "TrafficMatrix$Equations" "knownCount" "I" ∈ Ts) (hd : decode cc pc = .ok (.getfield index, 3)) (hn : pc + 3 = n) (k : vV K (gX Y) u lv (.int (nI (x_kc u)) :: st) n) : vV K (gX Y) u lv (.ref (yA Y 4) :: st) pc := v_get n hE hin 4 rfl rfl 1 (by decide) hlink rfl rfl hd hn k
theorem pX_knownCount (n : Nat) (hE : eV K (gX Y) cc nL own Ts rm) {index : Nat} {x : Nat} (hin : ∀ w ∈ u_ws RX0 TX0 8, w ∈ Ts) (hlink : Cond.fieldLink own index "TrafficMatrix$Equations" "knownCount" "I" ∈ Ts) (hd : decode cc pc = .ok (.putfield index, 3)) (hn : pc + 3 = n) (k : vV K (gX Y) (xs_kc u x) lv st n) : vV K (gX Y) u lv (.int (nI x) :: .ref (yA Y 4) :: st) pc := v_put n hE hin tyX0 tyX0_ok nmX0 4 rfl rfl 1 (by decide) hlink rfl rfl (ty := .int) (by decide +kernel) rfl rfl (Nat.le_of_ble_eq_true rfl) rfl hd hn k
theorem gX_pivotCount (n : Nat) (hE : eV K (gX Y) cc nL own Ts rm) {index : Nat} (hin : ∀ w ∈ u_ws RX0 TX0 8, w ∈ Ts) (hlink : Cond.fieldLink own index "TrafficMatrix$Equations" "pivotCount" "I" ∈ Ts) (hd : decode cc pc = .ok (.getfield index, 3)) (hn : pc + 3 = n) (k : vV K (gX Y) u lv (.int (nI (x_pc u)) :: st) n) : vV K (gX Y) u lv (.ref (yA Y 4) :: st) pc := v_get n hE hin 4 rfl rfl 2 (by decide) hlink rfl rfl hd hn k
theorem pX_pivotCount (n : Nat) (hE : eV K (gX Y) cc nL own Ts rm) {index : Nat} {x : Nat} (hin : ∀ w ∈ u_ws RX0 TX0 8, w ∈ Ts) (hlink : Cond.fieldLink own index "TrafficMatrix$Equations" "pivotCount" "I" ∈ Ts) (hd : decode cc pc = .ok (.putfield index, 3)) (hn : pc + 3 = n) (k : vV K (gX Y) (xs_pc u x) lv st n) : vV K (gX Y) u lv (.int (nI x) :: .ref (yA Y 4) :: st) pc := v_put n hE hin tyX0 tyX0_ok nmX0 4 rfl rfl 2 (by decide) hlink rfl rfl (ty := .int) (by decide +kernel) rfl rfl (Nat.le_of_ble_eq_true rfl) rfl hd hn k
theorem gX_pivot (n : Nat) (hE : eV K (gX Y) cc nL own Ts rm) {index : Nat} (hin : ∀ w ∈ u_ws RX0 TX0 8, w ∈ Ts) (hlink : Cond.fieldLink own index "TrafficMatrix$Equations" "pivot" "J" ∈ Ts) (hd : decode cc pc = .ok (.getfield index, 3)) (hn : pc + 3 = n) (k : vV K (gX Y) u lv (.long (x_piv u) :: st) n) : vV K (gX Y) u lv (.ref (yA Y 4) :: st) pc := v_get n hE hin 4 rfl rfl 3 (by decide) hlink rfl rfl hd hn k
theorem pX_pivot (n : Nat) (hE : eV K (gX Y) cc nL own Ts rm) {index : Nat} {x : Int64} (hin : ∀ w ∈ u_ws RX0 TX0 8, w ∈ Ts) (hlink : Cond.fieldLink own index "TrafficMatrix$Equations" "pivot" "J" ∈ Ts) (hd : decode cc pc = .ok (.putfield index, 3)) (hn : pc + 3 = n) (k : vV K (gX Y) (xs_piv u x) lv st n) : vV K (gX Y) u lv (.long x :: .ref (yA Y 4) :: st) pc := v_put n hE hin tyX0 tyX0_ok nmX0 4 rfl rfl 3 (by decide) hlink rfl rfl (ty := .long) (by decide +kernel) rfl rfl (Nat.le_of_ble_eq_true rfl) rfl hd hn k
theorem gX_rows (n : Nat) (hE : eV K (gX Y) cc nL own Ts rm) {index : Nat} (hin : ∀ w ∈ u_ws RX0 TX0 8, w ∈ Ts) (hlink : Cond.fieldLink own index "TrafficMatrix$Equations" "rows" "[[J" ∈ Ts) (hd : decode cc pc = .ok (.getfield index, 3)) (hn : pc + 3 = n) (k : vV K (gX Y) u lv (.ref (yA Y 16) :: st) n) : vV K (gX Y) u lv (.ref (yA Y 4) :: st) pc := v_get n hE hin 4 rfl rfl 4 (by decide) hlink rfl rfl hd hn k
theorem gX_rowOfPivot (n : Nat) (hE : eV K (gX Y) cc nL own Ts rm) {index : Nat} (hin : ∀ w ∈ u_ws RX0 TX0 8, w ∈ Ts) (hlink : Cond.fieldLink own index "TrafficMatrix$Equations" "rowOfPivot" "[I" ∈ Ts) (hd : decode cc pc = .ok (.getfield index, 3)) (hn : pc + 3 = n) (k : vV K (gX Y) u lv (.ref (yA Y 17) :: st) n) : vV K (gX Y) u lv (.ref (yA Y 4) :: st) pc := v_get n hE hin 4 rfl rfl 5 (by decide) hlink rfl rfl hd hn k
theorem gX_pivotOfRow (n : Nat) (hE : eV K (gX Y) cc nL own Ts rm) {index : Nat} (hin : ∀ w ∈ u_ws RX0 TX0 8, w ∈ Ts) (hlink : Cond.fieldLink own index "TrafficMatrix$Equations" "pivotOfRow" "[I" ∈ Ts) (hd : decode cc pc = .ok (.getfield index, 3)) (hn : pc + 3 = n) (k : vV K (gX Y) u lv (.ref (yA Y 18) :: st) n) : vV K (gX Y) u lv (.ref (yA Y 4) :: st) pc := v_get n hE hin 4 rfl rfl 6 (by decide) hlink rfl rfl hd hn k
theorem gX_known (n : Nat) (hE : eV K (gX Y) cc nL own Ts rm) {index : Nat} (hin : ∀ w ∈ u_ws RX0 TX0 8, w ∈ Ts) (hlink : Cond.fieldLink own index "TrafficMatrix$Equations" "known" "[Z" ∈ Ts) (hd : decode cc pc = .ok (.getfield index, 3)) (hn : pc + 3 = n) (k : vV K (gX Y) u lv (.ref (yA Y 19) :: st) n) : vV K (gX Y) u lv (.ref (yA Y 4) :: st) pc := v_get n hE hin 4 rfl rfl 7 (by decide) hlink rfl rfl hd hn k
theorem gX_values (n : Nat) (hE : eV K (gX Y) cc nL own Ts rm) {index : Nat} (hin : ∀ w ∈ u_ws RX1 TX1 2, w ∈ Ts) (hlink : Cond.fieldLink own index "TrafficMatrix$Estimates" "values" "[J" ∈ Ts) (hd : decode cc pc = .ok (.getfield index, 3)) (hn : pc + 3 = n) (k : vV K (gX Y) u lv (.ref (yA Y 20) :: st) n) : vV K (gX Y) u lv (.ref (yA Y 5) :: st) pc := v_get n hE hin 5 rfl rfl 0 (by decide) hlink rfl rfl hd hn k
theorem gX_remembered (n : Nat) (hE : eV K (gX Y) cc nL own Ts rm) {index : Nat} (hin : ∀ w ∈ u_ws RX1 TX1 2, w ∈ Ts) (hlink : Cond.fieldLink own index "TrafficMatrix$Estimates" "remembered" "[J" ∈ Ts) (hd : decode cc pc = .ok (.getfield index, 3)) (hn : pc + 3 = n) (k : vV K (gX Y) u lv (.ref (yA Y 21) :: st) n) : vV K (gX Y) u lv (.ref (yA Y 5) :: st) pc := v_get n hE hin 5 rfl rfl 1 (by decide) hlink rfl rfl hd hn k
theorem lX_dem (n : Nat) (hE : eV K (gX Y) cc nL own Ts rm) {i : Nat} (hi : i < 25) (hd : decode cc pc = .ok (.iaload, 1)) (hn : pc + 1 = n) (k : vV K (gX Y) u lv (.int (x_dem u i) :: st) n) : vV K (gX Y) u lv (.int (nI i) :: .ref (yA Y 2) :: st) pc := v_iald n hE 2 0 rfl rfl hi (by decide) hd hn k
theorem sX_dem (n : Nat) (hE : eV K (gX Y) cc nL own Ts rm) {i : Nat} {x : Int32} (hi : i < 25) (hd : decode cc pc = .ok (.iastore, 1)) (hn : pc + 1 = n) (k : vV K (gX Y) (xs_dem u (va_up (x_dem u) i x)) lv st n) : vV K (gX Y) u lv (.int x :: .int (nI i) :: .ref (yA Y 2) :: st) pc := v_iast n hE 2 0 rfl rfl hi (by decide) (by rw [up_i (x_dem u) i x]; rfl) hd hn k
theorem lX_src (n : Nat) (hE : eV K (gX Y) cc nL own Ts rm) {i : Nat} (hi : i < 12) (hd : decode cc pc = .ok (.iaload, 1)) (hn : pc + 1 = n) (k : vV K (gX Y) u lv (.int (nI (x_src u i)) :: st) n) : vV K (gX Y) u lv (.int (nI i) :: .ref (yA Y 6) :: st) pc := v_iald n hE 6 0 rfl rfl hi (by decide) hd hn k
theorem sX_src (n : Nat) (hE : eV K (gX Y) cc nL own Ts rm) {i : Nat} {x : Nat} (hi : i < 12) (hd : decode cc pc = .ok (.iastore, 1)) (hn : pc + 1 = n) (k : vV K (gX Y) (xs_src u (va_up (x_src u) i x)) lv st n) : vV K (gX Y) u lv (.int (nI x) :: .int (nI i) :: .ref (yA Y 6) :: st) pc := v_iast n hE 6 0 rfl rfl hi (by decide) (by rw [up_nI (x_src u) i x]; rfl) hd hn k
theorem lX_tgt (n : Nat) (hE : eV K (gX Y) cc nL own Ts rm) {i : Nat} (hi : i < 12) (hd : decode cc pc = .ok (.iaload, 1)) (hn : pc + 1 = n) (k : vV K (gX Y) u lv (.int (nI (x_tgt u i)) :: st) n) : vV K (gX Y) u lv (.int (nI i) :: .ref (yA Y 7) :: st) pc := v_iald n hE 7 0 rfl rfl hi (by decide) hd hn k
theorem sX_tgt (n : Nat) (hE : eV K (gX Y) cc nL own Ts rm) {i : Nat} {x : Nat} (hi : i < 12) (hd : decode cc pc = .ok (.iastore, 1)) (hn : pc + 1 = n) (k : vV K (gX Y) (xs_tgt u (va_up (x_tgt u) i x)) lv st n) : vV K (gX Y) u lv (.int (nI x) :: .int (nI i) :: .ref (yA Y 7) :: st) pc := v_iast n hE 7 0 rfl rfl hi (by decide) (by rw [up_nI (x_tgt u) i x]; rfl) hd hn k
theorem lX_met (n : Nat) (hE : eV K (gX Y) cc nL own Ts rm) {i : Nat} (hi : i < 12) (hd : decode cc pc = .ok (.iaload, 1)) (hn : pc + 1 = n) (k : vV K (gX Y) u lv (.int (nI (x_met u i)) :: st) n) : vV K (gX Y) u lv (.int (nI i) :: .ref (yA Y 8) :: st) pc := v_iald n hE 8 0 rfl rfl hi (by decide) hd hn k
theorem sX_met (n : Nat) (hE : eV K (gX Y) cc nL own Ts rm) {i : Nat} {x : Nat} (hi : i < 12) (hd : decode cc pc = .ok (.iastore, 1)) (hn : pc + 1 = n) (k : vV K (gX Y) (xs_met u (va_up (x_met u) i x)) lv st n) : vV K (gX Y) u lv (.int (nI x) :: .int (nI i) :: .ref (yA Y 8) :: st) pc := v_iast n hE 8 0 rfl rfl hi (by decide) (by rw [up_nI (x_met u) i x]; rfl) hd hn k
theorem lX_len (n : Nat) (hE : eV K (gX Y) cc nL own Ts rm) {i : Nat} (hi : i < 25) (hd : decode cc pc = .ok (.iaload, 1)) (hn : pc + 1 = n) (k : vV K (gX Y) u lv (.int (nI (x_len u i)) :: st) n) : vV K (gX Y) u lv (.int (nI i) :: .ref (yA Y 9) :: st) pc := v_iald n hE 9 0 rfl rfl hi (by decide) hd hn k
theorem sX_len (n : Nat) (hE : eV K (gX Y) cc nL own Ts rm) {i : Nat} {x : Nat} (hi : i < 25) (hd : decode cc pc = .ok (.iastore, 1)) (hn : pc + 1 = n) (k : vV K (gX Y) (xs_len u (va_up (x_len u) i x)) lv st n) : vV K (gX Y) u lv (.int (nI x) :: .int (nI i) :: .ref (yA Y 9) :: st) pc := v_iast n hE 9 0 rfl rfl hi (by decide) (by rw [up_nI (x_len u) i x]; rfl) hd hn k
theorem lX_cost (n : Nat) (hE : eV K (gX Y) cc nL own Ts rm) {i : Nat} (hi : i < 5) (hd : decode cc pc = .ok (.iaload, 1)) (hn : pc + 1 = n) (k : vV K (gX Y) u lv (.int (nI (x_cost u i)) :: st) n) : vV K (gX Y) u lv (.int (nI i) :: .ref (yA Y 11) :: st) pc := v_iald n hE 11 0 rfl rfl hi (by decide) hd hn k
theorem sX_cost (n : Nat) (hE : eV K (gX Y) cc nL own Ts rm) {i : Nat} {x : Nat} (hi : i < 5) (hd : decode cc pc = .ok (.iastore, 1)) (hn : pc + 1 = n) (k : vV K (gX Y) (xs_cost u (va_up (x_cost u) i x)) lv st n) : vV K (gX Y) u lv (.int (nI x) :: .int (nI i) :: .ref (yA Y 11) :: st) pc := v_iast n hE 11 0 rfl rfl hi (by decide) (by rw [up_nI (x_cost u) i x]; rfl) hd hn k
theorem lX_load (n : Nat) (hE : eV K (gX Y) cc nL own Ts rm) {i : Nat} (hi : i < 12) (hd : decode cc pc = .ok (.iaload, 1)) (hn : pc + 1 = n) (k : vV K (gX Y) u lv (.int (x_load u i) :: st) n) : vV K (gX Y) u lv (.int (nI i) :: .ref (yA Y 12) :: st) pc := v_iald n hE 12 0 rfl rfl hi (by decide) hd hn k
theorem sX_load (n : Nat) (hE : eV K (gX Y) cc nL own Ts rm) {i : Nat} {x : Int32} (hi : i < 12) (hd : decode cc pc = .ok (.iastore, 1)) (hn : pc + 1 = n) (k : vV K (gX Y) (xs_load u (va_up (x_load u) i x)) lv st n) : vV K (gX Y) u lv (.int x :: .int (nI i) :: .ref (yA Y 12) :: st) pc := v_iast n hE 12 0 rfl rfl hi (by decide) (by rw [up_i (x_load u) i x]; rfl) hd hn k
theorem lX_out (n : Nat) (hE : eV K (gX Y) cc nL own Ts rm) {i : Nat} (hi : i < 5) (hd : decode cc pc = .ok (.iaload, 1)) (hn : pc + 1 = n) (k : vV K (gX Y) u lv (.int (x_out u i) :: st) n) : vV K (gX Y) u lv (.int (nI i) :: .ref (yA Y 13) :: st) pc := v_iald n hE 13 0 rfl rfl hi (by decide) hd hn k
theorem sX_out (n : Nat) (hE : eV K (gX Y) cc nL own Ts rm) {i : Nat} {x : Int32} (hi : i < 5) (hd : decode cc pc = .ok (.iastore, 1)) (hn : pc + 1 = n) (k : vV K (gX Y) (xs_out u (va_up (x_out u) i x)) lv st n) : vV K (gX Y) u lv (.int x :: .int (nI i) :: .ref (yA Y 13) :: st) pc := v_iast n hE 13 0 rfl rfl hi (by decide) (by rw [up_i (x_out u) i x]; rfl) hd hn k
theorem lX_inn (n : Nat) (hE : eV K (gX Y) cc nL own Ts rm) {i : Nat} (hi : i < 5) (hd : decode cc pc = .ok (.iaload, 1)) (hn : pc + 1 = n) (k : vV K (gX Y) u lv (.int (x_inn u i) :: st) n) : vV K (gX Y) u lv (.int (nI i) :: .ref (yA Y 14) :: st) pc := v_iald n hE 14 0 rfl rfl hi (by decide) hd hn k
theorem sX_inn (n : Nat) (hE : eV K (gX Y) cc nL own Ts rm) {i : Nat} {x : Int32} (hi : i < 5) (hd : decode cc pc = .ok (.iastore, 1)) (hn : pc + 1 = n) (k : vV K (gX Y) (xs_inn u (va_up (x_inn u) i x)) lv st n) : vV K (gX Y) u lv (.int x :: .int (nI i) :: .ref (yA Y 14) :: st) pc := v_iast n hE 14 0 rfl rfl hi (by decide) (by rw [up_i (x_inn u) i x]; rfl) hd hn k
theorem lX_pv (n : Nat) (hE : eV K (gX Y) cc nL own Ts rm) {i : Nat} (hi : i < 25) (hd : decode cc pc = .ok (.iaload, 1)) (hn : pc + 1 = n) (k : vV K (gX Y) u lv (.int (x_pv u i) :: st) n) : vV K (gX Y) u lv (.int (nI i) :: .ref (yA Y 15) :: st) pc := v_iald n hE 15 0 rfl rfl hi (by decide) hd hn k
theorem sX_pv (n : Nat) (hE : eV K (gX Y) cc nL own Ts rm) {i : Nat} {x : Int32} (hi : i < 25) (hd : decode cc pc = .ok (.iastore, 1)) (hn : pc + 1 = n) (k : vV K (gX Y) (xs_pv u (va_up (x_pv u) i x)) lv st n) : vV K (gX Y) u lv (.int x :: .int (nI i) :: .ref (yA Y 15) :: st) pc := v_iast n hE 15 0 rfl rfl hi (by decide) (by rw [up_i (x_pv u) i x]; rfl) hd hn k
theorem lX_rop (n : Nat) (hE : eV K (gX Y) cc nL own Ts rm) {i : Nat} (hi : i < 25) (hd : decode cc pc = .ok (.iaload, 1)) (hn : pc + 1 = n) (k : vV K (gX Y) u lv (.int (oI (-1) (x_rop u i)) :: st) n) : vV K (gX Y) u lv (.int (nI i) :: .ref (yA Y 17) :: st) pc := v_iald n hE 17 0 rfl rfl hi (by decide) hd hn k
theorem sX_rop (n : Nat) (hE : eV K (gX Y) cc nL own Ts rm) {i : Nat} {x : Option Nat} (hi : i < 25) (hd : decode cc pc = .ok (.iastore, 1)) (hn : pc + 1 = n) (k : vV K (gX Y) (xs_rop u (va_up (x_rop u) i x)) lv st n) : vV K (gX Y) u lv (.int (oI (-1) x) :: .int (nI i) :: .ref (yA Y 17) :: st) pc := v_iast n hE 17 0 rfl rfl hi (by decide) (by rw [up_oI (-1) (x_rop u) i x]; rfl) hd hn k
theorem lX_por (n : Nat) (hE : eV K (gX Y) cc nL own Ts rm) {i : Nat} (hi : i < 12) (hd : decode cc pc = .ok (.iaload, 1)) (hn : pc + 1 = n) (k : vV K (gX Y) u lv (.int (oI (-1) (x_por u i)) :: st) n) : vV K (gX Y) u lv (.int (nI i) :: .ref (yA Y 18) :: st) pc := v_iald n hE 18 0 rfl rfl hi (by decide) hd hn k
theorem sX_por (n : Nat) (hE : eV K (gX Y) cc nL own Ts rm) {i : Nat} {x : Option Nat} (hi : i < 12) (hd : decode cc pc = .ok (.iastore, 1)) (hn : pc + 1 = n) (k : vV K (gX Y) (xs_por u (va_up (x_por u) i x)) lv st n) : vV K (gX Y) u lv (.int (oI (-1) x) :: .int (nI i) :: .ref (yA Y 18) :: st) pc := v_iast n hE 18 0 rfl rfl hi (by decide) (by rw [up_oI (-1) (x_por u) i x]; rfl) hd hn k
theorem lX_kn (n : Nat) (hE : eV K (gX Y) cc nL own Ts rm) {i : Nat} (hi : i < 25) (hd : decode cc pc = .ok (.baload, 1)) (hn : pc + 1 = n) (k : vV K (gX Y) u lv (.int (bI (x_kn u i)) :: st) n) : vV K (gX Y) u lv (.int (nI i) :: .ref (yA Y 19) :: st) pc := v_zald n hE 19 2 rfl rfl hi (by decide) hd hn k
theorem sX_kn (n : Nat) (hE : eV K (gX Y) cc nL own Ts rm) {i : Nat} {x : Bool} (hi : i < 25) (hd : decode cc pc = .ok (.bastore, 1)) (hn : pc + 1 = n) (k : vV K (gX Y) (xs_kn u (va_up (x_kn u) i x)) lv st n) : vV K (gX Y) u lv (.int (bI x) :: .int (nI i) :: .ref (yA Y 19) :: st) pc := v_zast n hE 19 2 rfl rfl hi (by decide) (by rw [up_bI (x_kn u) i x]; rfl) hd hn k
theorem lX_val (n : Nat) (hE : eV K (gX Y) cc nL own Ts rm) {i : Nat} (hi : i < 25) (hd : decode cc pc = .ok (.laload, 1)) (hn : pc + 1 = n) (k : vV K (gX Y) u lv (.long (x_val u i) :: st) n) : vV K (gX Y) u lv (.int (nI i) :: .ref (yA Y 20) :: st) pc := v_lald n hE 20 1 rfl rfl hi (by decide) hd hn k
theorem sX_val (n : Nat) (hE : eV K (gX Y) cc nL own Ts rm) {i : Nat} {x : Int64} (hi : i < 25) (hd : decode cc pc = .ok (.lastore, 1)) (hn : pc + 1 = n) (k : vV K (gX Y) (xs_val u (va_up (x_val u) i x)) lv st n) : vV K (gX Y) u lv (.long x :: .int (nI i) :: .ref (yA Y 20) :: st) pc := v_last n hE 20 1 rfl rfl hi (by decide) (by rw [up_l (x_val u) i x]; rfl) hd hn k
theorem lX_rem (n : Nat) (hE : eV K (gX Y) cc nL own Ts rm) {i : Nat} (hi : i < 25) (hd : decode cc pc = .ok (.laload, 1)) (hn : pc + 1 = n) (k : vV K (gX Y) u lv (.long (x_rem u i) :: st) n) : vV K (gX Y) u lv (.int (nI i) :: .ref (yA Y 21) :: st) pc := v_lald n hE 21 1 rfl rfl hi (by decide) hd hn k
theorem sX_rem (n : Nat) (hE : eV K (gX Y) cc nL own Ts rm) {i : Nat} {x : Int64} (hi : i < 25) (hd : decode cc pc = .ok (.lastore, 1)) (hn : pc + 1 = n) (k : vV K (gX Y) (xs_rem u (va_up (x_rem u) i x)) lv st n) : vV K (gX Y) u lv (.long x :: .int (nI i) :: .ref (yA Y 21) :: st) pc := v_last n hE 21 1 rfl rfl hi (by decide) (by rw [up_l (x_rem u) i x]; rfl) hd hn k
theorem rX_lnk (n : Nat) (hE : eV K (gX Y) cc nL own Ts rm) {i : Nat} (hi : i < 25) (hd : decode cc pc = .ok (.aaload, 1)) (hn : pc + 1 = n) (k : vV K (gX Y) u lv (.ref (yR Y i) :: st) n) : vV K (gX Y) u lv (.int (nI i) :: .ref (yA Y 10) :: st) pc := v_aald n hE 10 3 rfl rfl hi (by decide) (if_pos hi) hd hn k
theorem lX_lnk (n : Nat) (hE : eV K (gX Y) cc nL own Ts rm) {i j : Nat} (hi : i < 25) (hj : j < 4) (hd : decode cc pc = .ok (.iaload, 1)) (hn : pc + 1 = n) (k : vV K (gX Y) u lv (.int (nI (x_lnk u i j)) :: st) n) : vV K (gX Y) u lv (.int (nI j) :: .ref (yR Y i) :: st) pc := v_iald n hE (i + 22) 0 (cX_lnk Y u hi) rfl hj (by decide) hd hn k
theorem sX_lnk (n : Nat) (hE : eV K (gX Y) cc nL own Ts rm) {i j : Nat} {x : Nat} (hi : i < 25) (hj : j < 4) (hd : decode cc pc = .ok (.iastore, 1)) (hn : pc + 1 = n) (k : vV K (gX Y) (xs_lnk u (va_up (x_lnk u) i (va_up (x_lnk u i) j x))) lv st n) : vV K (gX Y) u lv (.int (nI x) :: .int (nI j) :: .ref (yR Y i) :: st) pc := v_iast n hE (i + 22) 0 (cX_lnk Y u hi) rfl hj (by decide) (cX_lnkS Y u hi j x) hd hn k
theorem rX_row (n : Nat) (hE : eV K (gX Y) cc nL own Ts rm) {i : Nat} (hi : i < 12) (hd : decode cc pc = .ok (.aaload, 1)) (hn : pc + 1 = n) (k : vV K (gX Y) u lv (.ref (yW Y i) :: st) n) : vV K (gX Y) u lv (.int (nI i) :: .ref (yA Y 16) :: st) pc := v_aald n hE 16 4 rfl rfl hi (by decide) (if_pos hi) hd hn k
theorem lX_row (n : Nat) (hE : eV K (gX Y) cc nL own Ts rm) {i j : Nat} (hi : i < 12) (hj : j < 26) (hd : decode cc pc = .ok (.laload, 1)) (hn : pc + 1 = n) (k : vV K (gX Y) u lv (.long (x_row u i j) :: st) n) : vV K (gX Y) u lv (.int (nI j) :: .ref (yW Y i) :: st) pc := v_lald n hE (i + 47) 1 (cX_row Y u hi) rfl hj (by decide) hd hn k
theorem sX_row (n : Nat) (hE : eV K (gX Y) cc nL own Ts rm) {i j : Nat} {x : Int64} (hi : i < 12) (hj : j < 26) (hd : decode cc pc = .ok (.lastore, 1)) (hn : pc + 1 = n) (k : vV K (gX Y) (xs_row u (va_up (x_row u) i (va_up (x_row u i) j x))) lv st n) : vV K (gX Y) u lv (.long x :: .int (nI j) :: .ref (yW Y i) :: st) pc := v_last n hE (i + 47) 1 (cX_row Y u hi) rfl hj (by decide) (cX_rowS Y u hi j x) hd hn k
end WX
section WM
variable {K : vK} {Y : yG} {cc : ByteArray} {nL : Nat} {own : String} {Ts : List Cond} {rm : Room} {u : MS} {lv : List (Nat × Value)} {st : List Value} {pc : Nat}
theorem gM_nodes (n : Nat) (hE : eV K (gM Y) cc nL own Ts rm) {index : Nat} (hin : ∀ w ∈ u_ws RX5 TX5 20, w ∈ Ts) (hlink : Cond.fieldLink own index "TrafficMatrixModel" "nodes" "I" ∈ Ts) (hd : decode cc pc = .ok (.getfield index, 3)) (hn : pc + 3 = n) (k : vV K (gM Y) u lv (.int (nI (w_n u)) :: st) n) : vV K (gM Y) u lv (.ref (yA Y 0) :: st) pc := v_get n hE hin 0 rfl rfl 0 (by decide) hlink rfl rfl hd hn k
theorem pM_nodes (n : Nat) (hE : eV K (gM Y) cc nL own Ts rm) {index : Nat} {x : Nat} (hin : ∀ w ∈ u_ws RX5 TX5 20, w ∈ Ts) (hlink : Cond.fieldLink own index "TrafficMatrixModel" "nodes" "I" ∈ Ts) (hd : decode cc pc = .ok (.putfield index, 3)) (hn : pc + 3 = n) (k : vV K (gM Y) (ws_n u x) lv st n) : vV K (gM Y) u lv (.int (nI x) :: .ref (yA Y 0) :: st) pc := v_put n hE hin tyX5 tyX5_ok nmX5 0 rfl rfl 0 (by decide) hlink rfl rfl (ty := .int) (by decide +kernel) rfl rfl (Nat.le_of_ble_eq_true rfl) rfl hd hn k
theorem gM_links (n : Nat) (hE : eV K (gM Y) cc nL own Ts rm) {index : Nat} (hin : ∀ w ∈ u_ws RX5 TX5 20, w ∈ Ts) (hlink : Cond.fieldLink own index "TrafficMatrixModel" "links" "I" ∈ Ts) (hd : decode cc pc = .ok (.getfield index, 3)) (hn : pc + 3 = n) (k : vV K (gM Y) u lv (.int (nI (w_m u)) :: st) n) : vV K (gM Y) u lv (.ref (yA Y 0) :: st) pc := v_get n hE hin 0 rfl rfl 1 (by decide) hlink rfl rfl hd hn k
theorem pM_links (n : Nat) (hE : eV K (gM Y) cc nL own Ts rm) {index : Nat} {x : Nat} (hin : ∀ w ∈ u_ws RX5 TX5 20, w ∈ Ts) (hlink : Cond.fieldLink own index "TrafficMatrixModel" "links" "I" ∈ Ts) (hd : decode cc pc = .ok (.putfield index, 3)) (hn : pc + 3 = n) (k : vV K (gM Y) (ws_m u x) lv st n) : vV K (gM Y) u lv (.int (nI x) :: .ref (yA Y 0) :: st) pc := v_put n hE hin tyX5 tyX5_ok nmX5 0 rfl rfl 1 (by decide) hlink rfl rfl (ty := .int) (by decide +kernel) rfl rfl (Nat.le_of_ble_eq_true rfl) rfl hd hn k
theorem gM_sourceOf (n : Nat) (hE : eV K (gM Y) cc nL own Ts rm) {index : Nat} (hin : ∀ w ∈ u_ws RX5 TX5 20, w ∈ Ts) (hlink : Cond.fieldLink own index "TrafficMatrixModel" "sourceOf" "[I" ∈ Ts) (hd : decode cc pc = .ok (.getfield index, 3)) (hn : pc + 3 = n) (k : vV K (gM Y) u lv (.ref (yA Y 1) :: st) n) : vV K (gM Y) u lv (.ref (yA Y 0) :: st) pc := v_get n hE hin 0 rfl rfl 2 (by decide) hlink rfl rfl hd hn k
theorem gM_targetOf (n : Nat) (hE : eV K (gM Y) cc nL own Ts rm) {index : Nat} (hin : ∀ w ∈ u_ws RX5 TX5 20, w ∈ Ts) (hlink : Cond.fieldLink own index "TrafficMatrixModel" "targetOf" "[I" ∈ Ts) (hd : decode cc pc = .ok (.getfield index, 3)) (hn : pc + 3 = n) (k : vV K (gM Y) u lv (.ref (yA Y 2) :: st) n) : vV K (gM Y) u lv (.ref (yA Y 0) :: st) pc := v_get n hE hin 0 rfl rfl 3 (by decide) hlink rfl rfl hd hn k
theorem gM_metricOf (n : Nat) (hE : eV K (gM Y) cc nL own Ts rm) {index : Nat} (hin : ∀ w ∈ u_ws RX5 TX5 20, w ∈ Ts) (hlink : Cond.fieldLink own index "TrafficMatrixModel" "metricOf" "[I" ∈ Ts) (hd : decode cc pc = .ok (.getfield index, 3)) (hn : pc + 3 = n) (k : vV K (gM Y) u lv (.ref (yA Y 3) :: st) n) : vV K (gM Y) u lv (.ref (yA Y 0) :: st) pc := v_get n hE hin 0 rfl rfl 4 (by decide) hlink rfl rfl hd hn k
theorem gM_demand (n : Nat) (hE : eV K (gM Y) cc nL own Ts rm) {index : Nat} (hin : ∀ w ∈ u_ws RX5 TX5 20, w ∈ Ts) (hlink : Cond.fieldLink own index "TrafficMatrixModel" "demand" "[I" ∈ Ts) (hd : decode cc pc = .ok (.getfield index, 3)) (hn : pc + 3 = n) (k : vV K (gM Y) u lv (.ref (yA Y 4) :: st) n) : vV K (gM Y) u lv (.ref (yA Y 0) :: st) pc := v_get n hE hin 0 rfl rfl 5 (by decide) hlink rfl rfl hd hn k
theorem gM_load (n : Nat) (hE : eV K (gM Y) cc nL own Ts rm) {index : Nat} (hin : ∀ w ∈ u_ws RX5 TX5 20, w ∈ Ts) (hlink : Cond.fieldLink own index "TrafficMatrixModel" "load" "[I" ∈ Ts) (hd : decode cc pc = .ok (.getfield index, 3)) (hn : pc + 3 = n) (k : vV K (gM Y) u lv (.ref (yA Y 5) :: st) n) : vV K (gM Y) u lv (.ref (yA Y 0) :: st) pc := v_get n hE hin 0 rfl rfl 6 (by decide) hlink rfl rfl hd hn k
theorem gM_outOf (n : Nat) (hE : eV K (gM Y) cc nL own Ts rm) {index : Nat} (hin : ∀ w ∈ u_ws RX5 TX5 20, w ∈ Ts) (hlink : Cond.fieldLink own index "TrafficMatrixModel" "outOf" "[I" ∈ Ts) (hd : decode cc pc = .ok (.getfield index, 3)) (hn : pc + 3 = n) (k : vV K (gM Y) u lv (.ref (yA Y 6) :: st) n) : vV K (gM Y) u lv (.ref (yA Y 0) :: st) pc := v_get n hE hin 0 rfl rfl 7 (by decide) hlink rfl rfl hd hn k
theorem gM_inOf (n : Nat) (hE : eV K (gM Y) cc nL own Ts rm) {index : Nat} (hin : ∀ w ∈ u_ws RX5 TX5 20, w ∈ Ts) (hlink : Cond.fieldLink own index "TrafficMatrixModel" "inOf" "[I" ∈ Ts) (hd : decode cc pc = .ok (.getfield index, 3)) (hn : pc + 3 = n) (k : vV K (gM Y) u lv (.ref (yA Y 7) :: st) n) : vV K (gM Y) u lv (.ref (yA Y 0) :: st) pc := v_get n hE hin 0 rfl rfl 8 (by decide) hlink rfl rfl hd hn k
theorem gM_isMeasured (n : Nat) (hE : eV K (gM Y) cc nL own Ts rm) {index : Nat} (hin : ∀ w ∈ u_ws RX5 TX5 20, w ∈ Ts) (hlink : Cond.fieldLink own index "TrafficMatrixModel" "isMeasured" "[Z" ∈ Ts) (hd : decode cc pc = .ok (.getfield index, 3)) (hn : pc + 3 = n) (k : vV K (gM Y) u lv (.ref (yA Y 8) :: st) n) : vV K (gM Y) u lv (.ref (yA Y 0) :: st) pc := v_get n hE hin 0 rfl rfl 9 (by decide) hlink rfl rfl hd hn k
theorem gM_measured (n : Nat) (hE : eV K (gM Y) cc nL own Ts rm) {index : Nat} (hin : ∀ w ∈ u_ws RX5 TX5 20, w ∈ Ts) (hlink : Cond.fieldLink own index "TrafficMatrixModel" "measured" "[I" ∈ Ts) (hd : decode cc pc = .ok (.getfield index, 3)) (hn : pc + 3 = n) (k : vV K (gM Y) u lv (.ref (yA Y 9) :: st) n) : vV K (gM Y) u lv (.ref (yA Y 0) :: st) pc := v_get n hE hin 0 rfl rfl 10 (by decide) hlink rfl rfl hd hn k
theorem gM_guess (n : Nat) (hE : eV K (gM Y) cc nL own Ts rm) {index : Nat} (hin : ∀ w ∈ u_ws RX5 TX5 20, w ∈ Ts) (hlink : Cond.fieldLink own index "TrafficMatrixModel" "guess" "[J" ∈ Ts) (hd : decode cc pc = .ok (.getfield index, 3)) (hn : pc + 3 = n) (k : vV K (gM Y) u lv (.ref (yA Y 10) :: st) n) : vV K (gM Y) u lv (.ref (yA Y 0) :: st) pc := v_get n hE hin 0 rfl rfl 11 (by decide) hlink rfl rfl hd hn k
theorem gM_distance (n : Nat) (hE : eV K (gM Y) cc nL own Ts rm) {index : Nat} (hin : ∀ w ∈ u_ws RX5 TX5 20, w ∈ Ts) (hlink : Cond.fieldLink own index "TrafficMatrixModel" "distance" "[I" ∈ Ts) (hd : decode cc pc = .ok (.getfield index, 3)) (hn : pc + 3 = n) (k : vV K (gM Y) u lv (.ref (yA Y 11) :: st) n) : vV K (gM Y) u lv (.ref (yA Y 0) :: st) pc := v_get n hE hin 0 rfl rfl 12 (by decide) hlink rfl rfl hd hn k
theorem gM_bitsOf (n : Nat) (hE : eV K (gM Y) cc nL own Ts rm) {index : Nat} (hin : ∀ w ∈ u_ws RX5 TX5 20, w ∈ Ts) (hlink : Cond.fieldLink own index "TrafficMatrixModel" "bitsOf" "[I" ∈ Ts) (hd : decode cc pc = .ok (.getfield index, 3)) (hn : pc + 3 = n) (k : vV K (gM Y) u lv (.ref (yA Y 12) :: st) n) : vV K (gM Y) u lv (.ref (yA Y 0) :: st) pc := v_get n hE hin 0 rfl rfl 13 (by decide) hlink rfl rfl hd hn k
theorem gM_row (n : Nat) (hE : eV K (gM Y) cc nL own Ts rm) {index : Nat} (hin : ∀ w ∈ u_ws RX5 TX5 20, w ∈ Ts) (hlink : Cond.fieldLink own index "TrafficMatrixModel" "row" "[J" ∈ Ts) (hd : decode cc pc = .ok (.getfield index, 3)) (hn : pc + 3 = n) (k : vV K (gM Y) u lv (.ref (yA Y 13) :: st) n) : vV K (gM Y) u lv (.ref (yA Y 0) :: st) pc := v_get n hE hin 0 rfl rfl 14 (by decide) hlink rfl rfl hd hn k
theorem gM_rows (n : Nat) (hE : eV K (gM Y) cc nL own Ts rm) {index : Nat} (hin : ∀ w ∈ u_ws RX5 TX5 20, w ∈ Ts) (hlink : Cond.fieldLink own index "TrafficMatrixModel" "rows" "I" ∈ Ts) (hd : decode cc pc = .ok (.getfield index, 3)) (hn : pc + 3 = n) (k : vV K (gM Y) u lv (.int (nI (w_rows u)) :: st) n) : vV K (gM Y) u lv (.ref (yA Y 0) :: st) pc := v_get n hE hin 0 rfl rfl 15 (by decide) hlink rfl rfl hd hn k
theorem pM_rows (n : Nat) (hE : eV K (gM Y) cc nL own Ts rm) {index : Nat} {x : Nat} (hin : ∀ w ∈ u_ws RX5 TX5 20, w ∈ Ts) (hlink : Cond.fieldLink own index "TrafficMatrixModel" "rows" "I" ∈ Ts) (hd : decode cc pc = .ok (.putfield index, 3)) (hn : pc + 3 = n) (k : vV K (gM Y) (ws_rows u x) lv st n) : vV K (gM Y) u lv (.int (nI x) :: .ref (yA Y 0) :: st) pc := v_put n hE hin tyX5 tyX5_ok nmX5 0 rfl rfl 15 (by decide) hlink rfl rfl (ty := .int) (by decide +kernel) rfl rfl (Nat.le_of_ble_eq_true rfl) rfl hd hn k
theorem gM_known (n : Nat) (hE : eV K (gM Y) cc nL own Ts rm) {index : Nat} (hin : ∀ w ∈ u_ws RX5 TX5 20, w ∈ Ts) (hlink : Cond.fieldLink own index "TrafficMatrixModel" "known" "I" ∈ Ts) (hd : decode cc pc = .ok (.getfield index, 3)) (hn : pc + 3 = n) (k : vV K (gM Y) u lv (.int (nI (w_kn u)) :: st) n) : vV K (gM Y) u lv (.ref (yA Y 0) :: st) pc := v_get n hE hin 0 rfl rfl 16 (by decide) hlink rfl rfl hd hn k
theorem pM_known (n : Nat) (hE : eV K (gM Y) cc nL own Ts rm) {index : Nat} {x : Nat} (hin : ∀ w ∈ u_ws RX5 TX5 20, w ∈ Ts) (hlink : Cond.fieldLink own index "TrafficMatrixModel" "known" "I" ∈ Ts) (hd : decode cc pc = .ok (.putfield index, 3)) (hn : pc + 3 = n) (k : vV K (gM Y) (ws_kn u x) lv st n) : vV K (gM Y) u lv (.int (nI x) :: .ref (yA Y 0) :: st) pc := v_put n hE hin tyX5 tyX5_ok nmX5 0 rfl rfl 16 (by decide) hlink rfl rfl (ty := .int) (by decide +kernel) rfl rfl (Nat.le_of_ble_eq_true rfl) rfl hd hn k
theorem gM_pivotRow (n : Nat) (hE : eV K (gM Y) cc nL own Ts rm) {index : Nat} (hin : ∀ w ∈ u_ws RX5 TX5 20, w ∈ Ts) (hlink : Cond.fieldLink own index "TrafficMatrixModel" "pivotRow" "[I" ∈ Ts) (hd : decode cc pc = .ok (.getfield index, 3)) (hn : pc + 3 = n) (k : vV K (gM Y) u lv (.ref (yA Y 14) :: st) n) : vV K (gM Y) u lv (.ref (yA Y 0) :: st) pc := v_get n hE hin 0 rfl rfl 17 (by decide) hlink rfl rfl hd hn k
theorem gM_wasSure (n : Nat) (hE : eV K (gM Y) cc nL own Ts rm) {index : Nat} (hin : ∀ w ∈ u_ws RX5 TX5 20, w ∈ Ts) (hlink : Cond.fieldLink own index "TrafficMatrixModel" "wasSure" "[Z" ∈ Ts) (hd : decode cc pc = .ok (.getfield index, 3)) (hn : pc + 3 = n) (k : vV K (gM Y) u lv (.ref (yA Y 15) :: st) n) : vV K (gM Y) u lv (.ref (yA Y 0) :: st) pc := v_get n hE hin 0 rfl rfl 18 (by decide) hlink rfl rfl hd hn k
theorem gM_before (n : Nat) (hE : eV K (gM Y) cc nL own Ts rm) {index : Nat} (hin : ∀ w ∈ u_ws RX5 TX5 20, w ∈ Ts) (hlink : Cond.fieldLink own index "TrafficMatrixModel" "before" "[J" ∈ Ts) (hd : decode cc pc = .ok (.getfield index, 3)) (hn : pc + 3 = n) (k : vV K (gM Y) u lv (.ref (yA Y 16) :: st) n) : vV K (gM Y) u lv (.ref (yA Y 0) :: st) pc := v_get n hE hin 0 rfl rfl 19 (by decide) hlink rfl rfl hd hn k
theorem lM_src (n : Nat) (hE : eV K (gM Y) cc nL own Ts rm) {i : Nat} (hi : i < 12) (hd : decode cc pc = .ok (.iaload, 1)) (hn : pc + 1 = n) (k : vV K (gM Y) u lv (.int (nI (w_src u i)) :: st) n) : vV K (gM Y) u lv (.int (nI i) :: .ref (yA Y 1) :: st) pc := v_iald n hE 1 0 rfl rfl hi (by decide) hd hn k
theorem sM_src (n : Nat) (hE : eV K (gM Y) cc nL own Ts rm) {i : Nat} {x : Nat} (hi : i < 12) (hd : decode cc pc = .ok (.iastore, 1)) (hn : pc + 1 = n) (k : vV K (gM Y) (ws_src u (va_up (w_src u) i x)) lv st n) : vV K (gM Y) u lv (.int (nI x) :: .int (nI i) :: .ref (yA Y 1) :: st) pc := v_iast n hE 1 0 rfl rfl hi (by decide) (by rw [up_nI (w_src u) i x]; rfl) hd hn k
theorem lM_tgt (n : Nat) (hE : eV K (gM Y) cc nL own Ts rm) {i : Nat} (hi : i < 12) (hd : decode cc pc = .ok (.iaload, 1)) (hn : pc + 1 = n) (k : vV K (gM Y) u lv (.int (nI (w_tgt u i)) :: st) n) : vV K (gM Y) u lv (.int (nI i) :: .ref (yA Y 2) :: st) pc := v_iald n hE 2 0 rfl rfl hi (by decide) hd hn k
theorem sM_tgt (n : Nat) (hE : eV K (gM Y) cc nL own Ts rm) {i : Nat} {x : Nat} (hi : i < 12) (hd : decode cc pc = .ok (.iastore, 1)) (hn : pc + 1 = n) (k : vV K (gM Y) (ws_tgt u (va_up (w_tgt u) i x)) lv st n) : vV K (gM Y) u lv (.int (nI x) :: .int (nI i) :: .ref (yA Y 2) :: st) pc := v_iast n hE 2 0 rfl rfl hi (by decide) (by rw [up_nI (w_tgt u) i x]; rfl) hd hn k
theorem lM_met (n : Nat) (hE : eV K (gM Y) cc nL own Ts rm) {i : Nat} (hi : i < 12) (hd : decode cc pc = .ok (.iaload, 1)) (hn : pc + 1 = n) (k : vV K (gM Y) u lv (.int (nI (w_met u i)) :: st) n) : vV K (gM Y) u lv (.int (nI i) :: .ref (yA Y 3) :: st) pc := v_iald n hE 3 0 rfl rfl hi (by decide) hd hn k
theorem sM_met (n : Nat) (hE : eV K (gM Y) cc nL own Ts rm) {i : Nat} {x : Nat} (hi : i < 12) (hd : decode cc pc = .ok (.iastore, 1)) (hn : pc + 1 = n) (k : vV K (gM Y) (ws_met u (va_up (w_met u) i x)) lv st n) : vV K (gM Y) u lv (.int (nI x) :: .int (nI i) :: .ref (yA Y 3) :: st) pc := v_iast n hE 3 0 rfl rfl hi (by decide) (by rw [up_nI (w_met u) i x]; rfl) hd hn k
theorem lM_dem (n : Nat) (hE : eV K (gM Y) cc nL own Ts rm) {i : Nat} (hi : i < 25) (hd : decode cc pc = .ok (.iaload, 1)) (hn : pc + 1 = n) (k : vV K (gM Y) u lv (.int (w_dem u i) :: st) n) : vV K (gM Y) u lv (.int (nI i) :: .ref (yA Y 4) :: st) pc := v_iald n hE 4 0 rfl rfl hi (by decide) hd hn k
theorem sM_dem (n : Nat) (hE : eV K (gM Y) cc nL own Ts rm) {i : Nat} {x : Int32} (hi : i < 25) (hd : decode cc pc = .ok (.iastore, 1)) (hn : pc + 1 = n) (k : vV K (gM Y) (ws_dem u (va_up (w_dem u) i x)) lv st n) : vV K (gM Y) u lv (.int x :: .int (nI i) :: .ref (yA Y 4) :: st) pc := v_iast n hE 4 0 rfl rfl hi (by decide) (by rw [up_i (w_dem u) i x]; rfl) hd hn k
theorem lM_load (n : Nat) (hE : eV K (gM Y) cc nL own Ts rm) {i : Nat} (hi : i < 12) (hd : decode cc pc = .ok (.iaload, 1)) (hn : pc + 1 = n) (k : vV K (gM Y) u lv (.int (w_load u i) :: st) n) : vV K (gM Y) u lv (.int (nI i) :: .ref (yA Y 5) :: st) pc := v_iald n hE 5 0 rfl rfl hi (by decide) hd hn k
theorem sM_load (n : Nat) (hE : eV K (gM Y) cc nL own Ts rm) {i : Nat} {x : Int32} (hi : i < 12) (hd : decode cc pc = .ok (.iastore, 1)) (hn : pc + 1 = n) (k : vV K (gM Y) (ws_load u (va_up (w_load u) i x)) lv st n) : vV K (gM Y) u lv (.int x :: .int (nI i) :: .ref (yA Y 5) :: st) pc := v_iast n hE 5 0 rfl rfl hi (by decide) (by rw [up_i (w_load u) i x]; rfl) hd hn k
theorem lM_out (n : Nat) (hE : eV K (gM Y) cc nL own Ts rm) {i : Nat} (hi : i < 5) (hd : decode cc pc = .ok (.iaload, 1)) (hn : pc + 1 = n) (k : vV K (gM Y) u lv (.int (w_out u i) :: st) n) : vV K (gM Y) u lv (.int (nI i) :: .ref (yA Y 6) :: st) pc := v_iald n hE 6 0 rfl rfl hi (by decide) hd hn k
theorem sM_out (n : Nat) (hE : eV K (gM Y) cc nL own Ts rm) {i : Nat} {x : Int32} (hi : i < 5) (hd : decode cc pc = .ok (.iastore, 1)) (hn : pc + 1 = n) (k : vV K (gM Y) (ws_out u (va_up (w_out u) i x)) lv st n) : vV K (gM Y) u lv (.int x :: .int (nI i) :: .ref (yA Y 6) :: st) pc := v_iast n hE 6 0 rfl rfl hi (by decide) (by rw [up_i (w_out u) i x]; rfl) hd hn k
theorem lM_inn (n : Nat) (hE : eV K (gM Y) cc nL own Ts rm) {i : Nat} (hi : i < 5) (hd : decode cc pc = .ok (.iaload, 1)) (hn : pc + 1 = n) (k : vV K (gM Y) u lv (.int (w_inn u i) :: st) n) : vV K (gM Y) u lv (.int (nI i) :: .ref (yA Y 7) :: st) pc := v_iald n hE 7 0 rfl rfl hi (by decide) hd hn k
theorem sM_inn (n : Nat) (hE : eV K (gM Y) cc nL own Ts rm) {i : Nat} {x : Int32} (hi : i < 5) (hd : decode cc pc = .ok (.iastore, 1)) (hn : pc + 1 = n) (k : vV K (gM Y) (ws_inn u (va_up (w_inn u) i x)) lv st n) : vV K (gM Y) u lv (.int x :: .int (nI i) :: .ref (yA Y 7) :: st) pc := v_iast n hE 7 0 rfl rfl hi (by decide) (by rw [up_i (w_inn u) i x]; rfl) hd hn k
theorem lM_ism (n : Nat) (hE : eV K (gM Y) cc nL own Ts rm) {i : Nat} (hi : i < 25) (hd : decode cc pc = .ok (.baload, 1)) (hn : pc + 1 = n) (k : vV K (gM Y) u lv (.int (bI (w_ism u i)) :: st) n) : vV K (gM Y) u lv (.int (nI i) :: .ref (yA Y 8) :: st) pc := v_zald n hE 8 2 rfl rfl hi (by decide) hd hn k
theorem sM_ism (n : Nat) (hE : eV K (gM Y) cc nL own Ts rm) {i : Nat} {x : Bool} (hi : i < 25) (hd : decode cc pc = .ok (.bastore, 1)) (hn : pc + 1 = n) (k : vV K (gM Y) (ws_ism u (va_up (w_ism u) i x)) lv st n) : vV K (gM Y) u lv (.int (bI x) :: .int (nI i) :: .ref (yA Y 8) :: st) pc := v_zast n hE 8 2 rfl rfl hi (by decide) (by rw [up_bI (w_ism u) i x]; rfl) hd hn k
theorem lM_mea (n : Nat) (hE : eV K (gM Y) cc nL own Ts rm) {i : Nat} (hi : i < 25) (hd : decode cc pc = .ok (.iaload, 1)) (hn : pc + 1 = n) (k : vV K (gM Y) u lv (.int (w_mea u i) :: st) n) : vV K (gM Y) u lv (.int (nI i) :: .ref (yA Y 9) :: st) pc := v_iald n hE 9 0 rfl rfl hi (by decide) hd hn k
theorem sM_mea (n : Nat) (hE : eV K (gM Y) cc nL own Ts rm) {i : Nat} {x : Int32} (hi : i < 25) (hd : decode cc pc = .ok (.iastore, 1)) (hn : pc + 1 = n) (k : vV K (gM Y) (ws_mea u (va_up (w_mea u) i x)) lv st n) : vV K (gM Y) u lv (.int x :: .int (nI i) :: .ref (yA Y 9) :: st) pc := v_iast n hE 9 0 rfl rfl hi (by decide) (by rw [up_i (w_mea u) i x]; rfl) hd hn k
theorem lM_gue (n : Nat) (hE : eV K (gM Y) cc nL own Ts rm) {i : Nat} (hi : i < 25) (hd : decode cc pc = .ok (.laload, 1)) (hn : pc + 1 = n) (k : vV K (gM Y) u lv (.long (w_gue u i) :: st) n) : vV K (gM Y) u lv (.int (nI i) :: .ref (yA Y 10) :: st) pc := v_lald n hE 10 1 rfl rfl hi (by decide) hd hn k
theorem sM_gue (n : Nat) (hE : eV K (gM Y) cc nL own Ts rm) {i : Nat} {x : Int64} (hi : i < 25) (hd : decode cc pc = .ok (.lastore, 1)) (hn : pc + 1 = n) (k : vV K (gM Y) (ws_gue u (va_up (w_gue u) i x)) lv st n) : vV K (gM Y) u lv (.long x :: .int (nI i) :: .ref (yA Y 10) :: st) pc := v_last n hE 10 1 rfl rfl hi (by decide) (by rw [up_l (w_gue u) i x]; rfl) hd hn k
theorem lM_dist (n : Nat) (hE : eV K (gM Y) cc nL own Ts rm) {i : Nat} (hi : i < 25) (hd : decode cc pc = .ok (.iaload, 1)) (hn : pc + 1 = n) (k : vV K (gM Y) u lv (.int (nI (w_dist u i)) :: st) n) : vV K (gM Y) u lv (.int (nI i) :: .ref (yA Y 11) :: st) pc := v_iald n hE 11 0 rfl rfl hi (by decide) hd hn k
theorem sM_dist (n : Nat) (hE : eV K (gM Y) cc nL own Ts rm) {i : Nat} {x : Nat} (hi : i < 25) (hd : decode cc pc = .ok (.iastore, 1)) (hn : pc + 1 = n) (k : vV K (gM Y) (ws_dist u (va_up (w_dist u) i x)) lv st n) : vV K (gM Y) u lv (.int (nI x) :: .int (nI i) :: .ref (yA Y 11) :: st) pc := v_iast n hE 11 0 rfl rfl hi (by decide) (by rw [up_nI (w_dist u) i x]; rfl) hd hn k
theorem lM_bits (n : Nat) (hE : eV K (gM Y) cc nL own Ts rm) {i : Nat} (hi : i < 25) (hd : decode cc pc = .ok (.iaload, 1)) (hn : pc + 1 = n) (k : vV K (gM Y) u lv (.int (nI (w_bits u i)) :: st) n) : vV K (gM Y) u lv (.int (nI i) :: .ref (yA Y 12) :: st) pc := v_iald n hE 12 0 rfl rfl hi (by decide) hd hn k
theorem sM_bits (n : Nat) (hE : eV K (gM Y) cc nL own Ts rm) {i : Nat} {x : Nat} (hi : i < 25) (hd : decode cc pc = .ok (.iastore, 1)) (hn : pc + 1 = n) (k : vV K (gM Y) (ws_bits u (va_up (w_bits u) i x)) lv st n) : vV K (gM Y) u lv (.int (nI x) :: .int (nI i) :: .ref (yA Y 12) :: st) pc := v_iast n hE 12 0 rfl rfl hi (by decide) (by rw [up_nI (w_bits u) i x]; rfl) hd hn k
theorem lM_row (n : Nat) (hE : eV K (gM Y) cc nL own Ts rm) {i : Nat} (hi : i < 312) (hd : decode cc pc = .ok (.laload, 1)) (hn : pc + 1 = n) (k : vV K (gM Y) u lv (.long (w_row u i) :: st) n) : vV K (gM Y) u lv (.int (nI i) :: .ref (yA Y 13) :: st) pc := v_lald n hE 13 1 rfl rfl hi (by decide) hd hn k
theorem sM_row (n : Nat) (hE : eV K (gM Y) cc nL own Ts rm) {i : Nat} {x : Int64} (hi : i < 312) (hd : decode cc pc = .ok (.lastore, 1)) (hn : pc + 1 = n) (k : vV K (gM Y) (ws_row u (va_up (w_row u) i x)) lv st n) : vV K (gM Y) u lv (.long x :: .int (nI i) :: .ref (yA Y 13) :: st) pc := v_last n hE 13 1 rfl rfl hi (by decide) (by rw [up_l (w_row u) i x]; rfl) hd hn k
theorem lM_pr (n : Nat) (hE : eV K (gM Y) cc nL own Ts rm) {i : Nat} (hi : i < 25) (hd : decode cc pc = .ok (.iaload, 1)) (hn : pc + 1 = n) (k : vV K (gM Y) u lv (.int (oI (-7) (w_pr u i)) :: st) n) : vV K (gM Y) u lv (.int (nI i) :: .ref (yA Y 14) :: st) pc := v_iald n hE 14 0 rfl rfl hi (by decide) hd hn k
theorem sM_pr (n : Nat) (hE : eV K (gM Y) cc nL own Ts rm) {i : Nat} {x : Option Nat} (hi : i < 25) (hd : decode cc pc = .ok (.iastore, 1)) (hn : pc + 1 = n) (k : vV K (gM Y) (ws_pr u (va_up (w_pr u) i x)) lv st n) : vV K (gM Y) u lv (.int (oI (-7) x) :: .int (nI i) :: .ref (yA Y 14) :: st) pc := v_iast n hE 14 0 rfl rfl hi (by decide) (by rw [up_oI (-7) (w_pr u) i x]; rfl) hd hn k
theorem lM_was (n : Nat) (hE : eV K (gM Y) cc nL own Ts rm) {i : Nat} (hi : i < 25) (hd : decode cc pc = .ok (.baload, 1)) (hn : pc + 1 = n) (k : vV K (gM Y) u lv (.int (bI (w_was u i)) :: st) n) : vV K (gM Y) u lv (.int (nI i) :: .ref (yA Y 15) :: st) pc := v_zald n hE 15 2 rfl rfl hi (by decide) hd hn k
theorem sM_was (n : Nat) (hE : eV K (gM Y) cc nL own Ts rm) {i : Nat} {x : Bool} (hi : i < 25) (hd : decode cc pc = .ok (.bastore, 1)) (hn : pc + 1 = n) (k : vV K (gM Y) (ws_was u (va_up (w_was u) i x)) lv st n) : vV K (gM Y) u lv (.int (bI x) :: .int (nI i) :: .ref (yA Y 15) :: st) pc := v_zast n hE 15 2 rfl rfl hi (by decide) (by rw [up_bI (w_was u) i x]; rfl) hd hn k
theorem lM_bef (n : Nat) (hE : eV K (gM Y) cc nL own Ts rm) {i : Nat} (hi : i < 25) (hd : decode cc pc = .ok (.laload, 1)) (hn : pc + 1 = n) (k : vV K (gM Y) u lv (.long (w_bef u i) :: st) n) : vV K (gM Y) u lv (.int (nI i) :: .ref (yA Y 16) :: st) pc := v_lald n hE 16 1 rfl rfl hi (by decide) hd hn k
theorem sM_bef (n : Nat) (hE : eV K (gM Y) cc nL own Ts rm) {i : Nat} {x : Int64} (hi : i < 25) (hd : decode cc pc = .ok (.lastore, 1)) (hn : pc + 1 = n) (k : vV K (gM Y) (ws_bef u (va_up (w_bef u) i x)) lv st n) : vV K (gM Y) u lv (.long x :: .int (nI i) :: .ref (yA Y 16) :: st) pc := v_last n hE 16 1 rfl rfl hi (by decide) (by rw [up_l (w_bef u) i x]; rfl) hd hn k
end WM
end
section
/-! searches, counts and sums below a bound -/
def anyB (p : Nat → Bool) : Nat → Bool
  | 0 => false
  | n + 1 => anyB p n || p n
theorem anyB_t {p : Nat → Bool} {n : Nat} : anyB p n = true ↔ ∃ j : Nat, j < n ∧ p j = true := by
  induction n with
  | zero => simp [anyB]
  | succ n ih =>
    simp only [anyB, Bool.or_eq_true, ih]
    constructor
    · rintro (⟨j, h, q⟩ | q)
      · exact ⟨j, by omega, q⟩
      · exact ⟨n, by omega, q⟩
    · rintro ⟨j, h, q⟩
      by_cases e : j = n
      · subst e; exact Or.inr q
      · exact Or.inl ⟨j, by omega, q⟩
theorem anyB_f {p : Nat → Bool} {n : Nat} : anyB p n = false ↔ ∀ j : Nat, j < n → p j = false := by
  rw [← Bool.not_eq_true, anyB_t]
  constructor
  · intro h j hj
    cases q : p j with
    | false => rfl
    | true => exact absurd ⟨j, hj, q⟩ h
  · rintro h ⟨j, hj, q⟩
    rw [h j hj] at q
    cases q
theorem anyB_congr {p q : Nat → Bool} {n : Nat} (h : ∀ j, j < n → p j = q j) : anyB p n = anyB q n := by
  induction n with
  | zero => rfl
  | succ n ih => simp only [anyB]; rw [ih (fun j hj => h j (by omega)), h n (by omega)]
/-- the first place below n where p holds -/
def fstN (p : Nat → Bool) : Nat → Option Nat
  | 0 => none
  | n + 1 => match fstN p n with
    | some k => some k
    | none => if p n then some n else none
theorem fstN_none {p : Nat → Bool} {n : Nat} : fstN p n = none ↔ ∀ j : Nat, j < n → p j = false := by
  induction n with
  | zero => simp [fstN]
  | succ n ih =>
    simp only [fstN]
    cases h : fstN p n with
    | some k =>
      simp only [reduceCtorEq, false_iff]
      intro q
      have := ih.mpr (fun j hj => q j (by omega))
      rw [h] at this
      cases this
    | none =>
      have h2 := ih.mp h
      cases q : p n with
      | true =>
        simp only [if_true, reduceCtorEq, false_iff]
        intro z
        rw [z n (by omega)] at q
        cases q
      | false =>
        simp only [Bool.false_eq_true, if_false, true_iff]
        intro j hj
        by_cases e : j = n
        · subst e; exact q
        · exact h2 j (by omega)
theorem fstN_some {p : Nat → Bool} {n k : Nat} : fstN p n = some k ↔ k < n ∧ p k = true ∧ ∀ j : Nat, j < k → p j = false := by
  induction n with
  | zero => simp [fstN]
  | succ n ih =>
    simp only [fstN]
    cases h : fstN p n with
    | some m =>
      simp only [Option.some.injEq]
      rw [h] at ih
      constructor
      · intro e
        obtain ⟨h1, h2, h3⟩ := ih.mp (by rw [e])
        exact ⟨by omega, h2, h3⟩
      · rintro ⟨h1, h2, h3⟩
        by_cases e : k = n
        · subst e
          have hm := (fstN_none (p := p) (n := k)).mpr h3
          rw [hm] at h
          cases h
        · exact Option.some.inj (ih.mpr ⟨by omega, h2, h3⟩)
    | none =>
      have h2 := fstN_none.mp h
      cases q : p n with
      | true =>
        simp only [if_true, Option.some.injEq]
        constructor
        · rintro rfl
          exact ⟨by omega, q, h2⟩
        · rintro ⟨a, b, c⟩
          by_cases e : k = n
          · exact e.symm
          · rw [h2 k (by omega)] at b
            cases b
      | false =>
        simp only [Bool.false_eq_true, if_false, reduceCtorEq, false_iff]
        rintro ⟨a, b, c⟩
        by_cases e : k = n
        · subst e; rw [q] at b; cases b
        · rw [h2 k (by omega)] at b; cases b
theorem fstN_congr {p q : Nat → Bool} {n : Nat} (h : ∀ j, j < n → p j = q j) : fstN p n = fstN q n := by
  induction n with
  | zero => rfl
  | succ n ih => simp only [fstN]; rw [ih (fun j hj => h j (by omega)), h n (by omega)]
def cntN (p : Nat → Bool) : Nat → Nat
  | 0 => 0
  | n + 1 => if p n then cntN p n + 1 else cntN p n
theorem cntN_le (p : Nat → Bool) (n : Nat) : cntN p n ≤ n := by
  induction n with
  | zero => exact Nat.le_refl 0
  | succ n ih => simp only [cntN]; split <;> omega
theorem cntN_congr {p q : Nat → Bool} {n : Nat} (h : ∀ j, j < n → p j = q j) : cntN p n = cntN q n := by
  induction n with
  | zero => rfl
  | succ n ih => simp only [cntN]; rw [ih (fun j hj => h j (by omega)), h n (by omega)]
def sumI (f : Nat → Int32) : Nat → Int32
  | 0 => 0
  | n + 1 => sumI f n + f n
theorem sumI_congr {f g : Nat → Int32} {n : Nat} (h : ∀ j, j < n → f j = g j) : sumI f n = sumI g n := by
  induction n with
  | zero => rfl
  | succ n ih => simp only [sumI]; rw [ih (fun j hj => h j (by omega)), h n (by omega)]
def sumL (f : Nat → Int64) : Nat → Int64
  | 0 => 0
  | n + 1 => sumL f n + f n
theorem sumL_congr {f g : Nat → Int64} {n : Nat} (h : ∀ j, j < n → f j = g j) : sumL f n = sumL g n := by
  induction n with
  | zero => rfl
  | succ n ih => simp only [sumL]; rw [ih (fun j hj => h j (by omega)), h n (by omega)]
/-- g below n, f from n on -/
def mixN {α : Type} (f g : Nat → α) (n : Nat) : Nat → α := fun j => if j < n then g j else f j
theorem mixN_0 {α : Type} (f g : Nat → α) : mixN f g 0 = f := by funext j; simp [mixN]
theorem mixN_s {α : Type} (f g : Nat → α) (n : Nat) : va_up (mixN f g n) n (g n) = mixN f g (n + 1) := by
  funext j
  unfold va_up mixN
  by_cases h : j = n
  · subst h; simp
  · by_cases h2 : j < n
    · simp [h, h2, show j < n + 1 by omega]
    · simp [h, h2, show ¬ j < n + 1 by omega]
theorem i32_add0 (x : Int32) : x + 0 = x := Int32.add_zero x
theorem i64_add0 (x : Int64) : x + 0 = x := Int64.add_zero x
theorem rI {x y : Int32} (h : x = y) : [Value.int x] = [Value.int y] := by rw [h]
theorem rL {x y : Int64} (h : x = y) : [Value.long x] = [Value.long y] := by rw [h]
theorem rB1 {b : Bool} (h : b = true) : [Value.int (nI 1)] = [Value.int (bI b)] := by rw [h]; rfl
theorem rB0 {b : Bool} (h : b = false) : [Value.int (nI 0)] = [Value.int (bI b)] := by rw [h]; rfl
end
section
/-! Arrays.fill and System.arraycopy over a world -/
theorem arrV_congr {c : ClassId} {N : Nat} {f g : Nat → Value} (h : ∀ j, j < N → f j = g j) : arrV c N f = arrV c N g := by
  unfold arrV
  congr 2
  funext j
  exact h j.val j.isLt
abbrev gFi (D : va_G) (cA : ClassId) (a N : Nat) : vG (Nat → Int32) := (D, [(cA, .int)], [], fun f => [(a, .inl (cA, N, .inl f))])
abbrev gFl (D : va_G) (cA : ClassId) (a N : Nat) : vG (Nat → Int64) := (D, [(cA, .long)], [], fun f => [(a, .inl (cA, N, .inr (.inl f)))])
theorem vV.same {S : Type} {K : vK} {G : vG S} {u u' : S} {lv : List (Nat × Value)} {st : List Value} {pc : Nat} (h : ∀ H : Heap, va_P G.1 vwCl (G.2.2.2 u) H → va_P G.1 vwCl (G.2.2.2 u') H) (k : vV K G u' lv st pc) : vV K G u lv st pc := fun H locs ls hP hS hl => k H locs ls (h H hP) hS hl
set_option maxRecDepth 100000 in
set_option maxHeartbeats 4000000 in
theorem kFi (l : Launch) (D : va_G) (cA : ClassId) (a N : Nat) (hN : N < 2 ^ 31) (f : Nat → Int32) (x : Int32) : mV l (gFi D cA a N) yJ7_fill_53178 wsJ7_fill_53178 ({ frames := 0, cells := 0, slots := 0, locals := 0 }) [.ref a, .int x] f (fun _ => x) := by
  refine mV_of (cc := cJ7_fill_53178) (nL := 4) (own := RJ7) (by decide) rfl rfl (fun v => rfl) (Nat.le_of_ble_eq_true rfl) ?_
  intro K hKl hE hret
  show vV K (gFi D cA a N) f [(0, .ref a), (1, .int x)] [] 0
  refine v_iconst 1 hE (v := nI 0) dJ7_fill_53178_0 (by decide) rfl ?_
  refine v_istore_n 2 hE [_, _, _] dJ7_fill_53178_1 rfl (by decide) rfl rfl ?_
  refine v_aload_n 3 hE dJ7_fill_53178_2 rfl rfl ?_
  refine v_alen 4 hE 0 0 rfl rfl dJ7_fill_53178_3 rfl ?_
  refine v_istore_n 5 hE [_, _, _, _] dJ7_fill_53178_4 rfl (by decide) rfl rfl ?_
  refine vV.sub [2, 3, 1, 0] rfl ?_
  have L5 : ∀ (n i : Nat) (g : Nat → Int32), i ≤ N → (∀ j, j < i → g j = x) → N + 1 ≤ i + n → vV K (gFi D cA a N) g [(0, .ref a), (1, .int x), (2, .int (nI i)), (3, .int (nI N))] [] 5 := by
    intro n
    induction n with
    | zero => intro i g hi hg hfu; exact absurd hfu (by omega)
    | succ n ih =>
      intro i g hi hg hfu
      refine v_iload_n 6 hE dJ7_fill_53178_5 rfl rfl ?_
      refine v_iload_n 7 hE dJ7_fill_53178_6 rfl rfl ?_
      refine v_ic_geN 10 hE 20 dJ7_fill_53178_7 (by decide) (by omega) (by omega) rfl (fun c => ?_) (fun c => ?_)
      · refine vV.same (u' := fun _ => x) (fun H hP k q hq => ?_) (hret _ _ dJ7_fill_53178_20)
        match k, hq with
        | 0, hq =>
          cases hq
          have h := hP 0 _ rfl
          show H[a]? = some (vp_cell cA (N, .inl (fun _ => x)))
          rw [vp_cell_i, arrV_congr (g := fun j => .int (g j)) (fun j hj => by rw [hg j (by omega)])]
          exact h
        | k + 1, hq => cases hq
      · refine v_aload_n 11 hE dJ7_fill_53178_10 rfl rfl ?_
        refine v_iload_n 12 hE dJ7_fill_53178_11 rfl rfl ?_
        refine v_iload_n 13 hE dJ7_fill_53178_12 rfl rfl ?_
        refine v_iast 14 hE 0 0 (u' := upd g i x) rfl rfl (by omega) hN rfl dJ7_fill_53178_13 rfl ?_
        refine v_iincN 17 hE [_, _, _, _] dJ7_fill_53178_14 rfl (by decide) rfl rfl ?_
        refine v_goto hE 5 dJ7_fill_53178_17 (by decide) ?_
        refine vV.sub [1, 2, 0, 3] rfl ?_
        exact ih _ _ (by omega) (fun j hj => by
          by_cases e : j = i
          · subst e; simp [upd]
          · simp [upd, e, hg j (by omega)]) (by omega)
  exact L5 (N + 1) _ _ (by omega) (by intro j hj; omega) (by omega)
set_option maxRecDepth 100000 in
set_option maxHeartbeats 4000000 in
theorem kFl (l : Launch) (D : va_G) (cA : ClassId) (a N : Nat) (hN : N < 2 ^ 31) (f : Nat → Int64) (x : Int64) : mV l (gFl D cA a N) yJ7_fill_d0a16 wsJ7_fill_d0a16 ({ frames := 0, cells := 0, slots := 0, locals := 0 }) [.ref a, .long x] f (fun _ => x) := by
  refine mV_of (cc := cJ7_fill_d0a16) (nL := 5) (own := RJ7) (by decide) rfl rfl (fun v => rfl) (Nat.le_of_ble_eq_true rfl) ?_
  intro K hKl hE hret
  show vV K (gFl D cA a N) f [(0, .ref a), (1, .long x)] [] 0
  refine v_iconst 1 hE (v := nI 0) dJ7_fill_d0a16_0 (by decide) rfl ?_
  refine v_istore_n 2 hE [_, _, _] dJ7_fill_d0a16_1 rfl (by decide) rfl rfl ?_
  refine v_aload_n 3 hE dJ7_fill_d0a16_2 rfl rfl ?_
  refine v_alen 4 hE 0 0 rfl rfl dJ7_fill_d0a16_3 rfl ?_
  refine v_istore 6 hE [_, _, _, _] dJ7_fill_d0a16_4 (by decide) rfl rfl ?_
  refine vV.sub [2, 3, 1, 0] rfl ?_
  have L6 : ∀ (n i : Nat) (g : Nat → Int64), i ≤ N → (∀ j, j < i → g j = x) → N + 1 ≤ i + n → vV K (gFl D cA a N) g [(0, .ref a), (1, .long x), (3, .int (nI i)), (4, .int (nI N))] [] 6 := by
    intro n
    induction n with
    | zero => intro i g hi hg hfu; exact absurd hfu (by omega)
    | succ n ih =>
      intro i g hi hg hfu
      refine v_iload_n 7 hE dJ7_fill_d0a16_6 rfl rfl ?_
      refine v_iload 9 hE dJ7_fill_d0a16_7 rfl rfl ?_
      refine v_ic_geN 12 hE 22 dJ7_fill_d0a16_9 (by decide) (by omega) (by omega) rfl (fun c => ?_) (fun c => ?_)
      · refine vV.same (u' := fun _ => x) (fun H hP k q hq => ?_) (hret _ _ dJ7_fill_d0a16_22)
        match k, hq with
        | 0, hq =>
          cases hq
          have h := hP 0 _ rfl
          show H[a]? = some (vp_cell cA (N, .inr (.inl (fun _ => x))))
          rw [vp_cell_l, arrV_congr (g := fun j => .long (g j)) (fun j hj => by rw [hg j (by omega)])]
          exact h
        | k + 1, hq => cases hq
      · refine v_aload_n 13 hE dJ7_fill_d0a16_12 rfl rfl ?_
        refine v_iload_n 14 hE dJ7_fill_d0a16_13 rfl rfl ?_
        refine v_lload_n 15 hE dJ7_fill_d0a16_14 rfl rfl ?_
        refine v_last 16 hE 0 0 (u' := vp_updL g i x) rfl rfl (by omega) hN rfl dJ7_fill_d0a16_15 rfl ?_
        refine v_iincN 19 hE [_, _, _, _] dJ7_fill_d0a16_16 rfl (by decide) rfl rfl ?_
        refine v_goto hE 6 dJ7_fill_d0a16_19 (by decide) ?_
        refine vV.sub [1, 2, 0, 3] rfl ?_
        exact ih _ _ (by omega) (fun j hj => by
          by_cases e : j = i
          · subst e; simp [vp_updL]
          · simp [vp_updL, e, hg j (by omega)]) (by omega)
  exact L6 (N + 1) _ _ (by omega) (by intro j hj; omega) (by omega)
section FILL
variable {S : Type} {K : vK} {G : vG S} {cc : ByteArray} {nL : Nat} {own : String} {Ts : List Cond} {rm : Room} {u u' : S} {lv : List (Nat × Value)} {st : List Value} {pc : Nat}
/-- one cell of the world was written by a callee -/
theorem vBack_set {S' : Type} {G' : vG S'} {v v' : S'} {A : Nat → Prop} (hD : va_D A (G.2.2.2 u)) (h1 : G'.1 = G.1) (q0 : Nat) {a : Nat} {e0 e1 : va_E} (ha : (G.2.2.2 u)[q0]? = some (a, e0)) (hv : G'.2.2.2 v = [(a, e0)]) (hv' : G'.2.2.2 v' = [(a, e1)]) (hu : (G.2.2.2 u).set q0 (a, e1) = G.2.2.2 u') : vBack G G' u u' v v' := by
  intro H H1 hP hk hP1
  rw [← hu]
  rw [hv'] at hP1
  rw [h1] at hP1
  have hlt := (List.getElem?_eq_some_iff.mp ha).1
  intro k q hq
  rw [List.getElem?_set] at hq
  by_cases e : q0 = k
  · subst e
    rw [if_pos rfl, if_pos hlt] at hq
    cases hq
    exact hP1 0 _ rfl
  · rw [if_neg e] at hq
    have h0 := hP k q hq
    refine h0.kept (hk q.1 h0.lt ?_)
    rw [hv]
    rintro (⟨j, e2, hj⟩ | hj)
    · have hj0 : j < 1 := (List.getElem?_eq_some_iff.mp hj).1
      rw [show j = 0 by omega] at hj
      have e3 : a = q.1 := by
        have := Option.some.inj hj
        exact congrArg Prod.fst this
      exact e (hD.1 q0 k (a, e0) q ha hq e3)
    · exact absurd h0.lt (Nat.not_lt.mpr hj)
theorem vP_one {D : va_G} {w : va_W} {H : Heap} (q0 : Nat) {q : Nat × va_E} (ha : w[q0]? = some q) (hP : va_P D vwCl w H) : va_P D vwCl [q] H := fun k x hx => by
  match k, hx with
  | 0, hx => cases hx; exact hP q0 _ ha
  | k + 1, hx => cases hx
theorem vD_one {A : Nat → Prop} {w : va_W} (q0 : Nat) {q : Nat × va_E} (ha : w[q0]? = some q) (hD : va_D A w) : va_D A [q] := by
  refine ⟨fun i j x y hx hy _ => ?_, fun k x hx => ?_⟩
  · have h1 : i < 1 := (List.getElem?_eq_some_iff.mp hx).1
    have h2 : j < 1 := (List.getElem?_eq_some_iff.mp hy).1
    omega
  · have h1 : k < 1 := (List.getElem?_eq_some_iff.mp hx).1
    rw [show k = 0 by omega] at hx
    cases hx
    exact hD.2 q0 _ ha
theorem v_fillI (n : Nat) (hE : eV K G cc nL own Ts rm) (q0 t0 : Nat) {a : Nat} {cA : ClassId} {N idx : Nat} {f : Nat → Int32} {x : Int32} (ha : (G.2.2.2 u)[q0]? = some (a, .inl (cA, N, .inl f))) (ht : G.2.1[t0]? = some (cA, .int)) (hN : N < 2 ^ 31) (hG : GoodIn Ts (va_wsS own idx yJ7_fill_53178 wsJ7_fill_53178)) (hrm : 1 ≤ rm.frames ∧ 23 ≤ rm.locals) (hcat : (st.map fun v => v.category).sum ≤ 8) (hu : (G.2.2.2 u).set q0 (a, .inl (cA, N, .inl (fun _ => x))) = G.2.2.2 u') (hd : decode cc pc = .ok (.invokestatic idx, 3)) (hn : pc + 3 = n) (k : vV K G u' lv st n) : vV K G u lv (.int x :: .ref a :: st) pc := by
  have hs : vSub K G (gFi G.1 cA a N) u f := ⟨fun H hP => vP_one q0 ha hP, ⟨hE.2.1.1, fun k q hq => by
    match k, hq with
    | 0, hq => cases hq; exact hE.2.1.2 t0 _ ht
    | k + 1, hq => cases hq⟩, vD_one q0 ha (hE.2.2.1 u), fun _ h => absurd h List.not_mem_nil⟩
  exact v_cv n hE hs (v_runS 2 hE hs (kFi _ G.1 cA a N hN f x) hG rfl (by decide +kernel) rfl ⟨rfl, rfl, hrm.1, hrm.2⟩ rfl hcat hd) (vBack_set (hE.2.2.1 u) rfl q0 ha rfl rfl hu) hn k
theorem v_fillL (n : Nat) (hE : eV K G cc nL own Ts rm) (q0 t0 : Nat) {a : Nat} {cA : ClassId} {N idx : Nat} {f : Nat → Int64} {x : Int64} (ha : (G.2.2.2 u)[q0]? = some (a, .inl (cA, N, .inr (.inl f)))) (ht : G.2.1[t0]? = some (cA, .long)) (hN : N < 2 ^ 31) (hG : GoodIn Ts (va_wsS own idx yJ7_fill_d0a16 wsJ7_fill_d0a16)) (hrm : 1 ≤ rm.frames ∧ 24 ≤ rm.locals) (hcat : (st.map fun v => v.category).sum ≤ 8) (hu : (G.2.2.2 u).set q0 (a, .inl (cA, N, .inr (.inl (fun _ => x)))) = G.2.2.2 u') (hd : decode cc pc = .ok (.invokestatic idx, 3)) (hn : pc + 3 = n) (k : vV K G u' lv st n) : vV K G u lv (.long x :: .ref a :: st) pc := by
  have hs : vSub K G (gFl G.1 cA a N) u f := ⟨fun H hP => vP_one q0 ha hP, ⟨hE.2.1.1, fun k q hq => by
    match k, hq with
    | 0, hq => cases hq; exact hE.2.1.2 t0 _ ht
    | k + 1, hq => cases hq⟩, vD_one q0 ha (hE.2.2.1 u), fun _ h => absurd h List.not_mem_nil⟩
  exact v_cv n hE hs (v_runS 2 hE hs (kFl _ G.1 cA a N hN f x) hG rfl (by decide +kernel) rfl ⟨rfl, rfl, hrm.1, hrm.2⟩ rfl hcat hd) (vBack_set (hE.2.2.1 u) rfl q0 ha rfl rfl hu) hn k
theorem v_copyL (n : Nat) (hE : eV K G cc nL own Ts rm) (q0 q1 t0 : Nat) {a0 a : Nat} {cA : ClassId} {N idx : Nat} {f g : Nat → Int64} (ha0 : (G.2.2.2 u)[q0]? = some (a0, .inl (cA, N, .inr (.inl f)))) (ha1 : (G.2.2.2 u)[q1]? = some (a, .inl (cA, N, .inr (.inl g)))) (ht : G.2.1[t0]? = some (cA, .long)) (hN : N < 2 ^ 31) (hlink : Cond.methodLink own idx arraycopyName ∈ Ts) (hnat : Cond.native arraycopyName ∈ Ts) (hstat : Cond.static arraycopyName ∈ Ts) (hini : Cond.initialized "java/lang/System" ∈ Ts) (hrm : 1 ≤ rm.frames ∧ (st.map fun v => v.category).sum + (nativeFrameWords "java/lang/System" "arraycopy" 5 + 11) ≤ rm.locals) (hu : (G.2.2.2 u).set q1 (a, .inl (cA, N, .inr (.inl (va_cpy f g 0 0 N)))) = G.2.2.2 u') (hd : decode cc pc = .ok (.invokestatic idx, 3)) (hn : pc + 3 = n) (k : vV K G u' lv st n) : vV K G u lv (.int (nI N) :: .int (nI 0) :: .ref a :: .int (nI 0) :: .ref a0 :: st) pc := by
  intro H locs ls hP hS hl
  have hR : K.1.1.2.2.2 = rm := hE.2.2.2.2.2.1
  have hts := hE.1.2.2.2.2
  have e0 : (nI 0).toNatClampNeg = 0 := by decide
  have eN : (nI N).toNatClampNeg = N := nI_clamp hN
  refine va_copyl hE.1.1 hE.1.2.1 (by rw [hE.1.2.2.1, hl.1, hE.2.2.2.2.2.2.1]) hE.1.2.2.2.1 (hts _ hlink) (hts _ hnat) (hts _ hstat) (hts _ hini) hE.2.1 hP (hE.2.2.1 u) hS q0 q1 t0 t0 ha0 ha1 ht ht rfl (nI_pos (by decide)) (nI_pos (by decide)) (nI_pos hN) (by rw [e0, eN]; omega) (by rw [e0, eN]; omega) (fun i _ => rfl) (by rw [hR]; exact hrm.1) (by rw [hR]; exact hrm.2) hd (fun H1 locs1 hP1 _ hS1 => ?_)
  subst hn
  rw [e0, eN, hu] at hP1
  exact k H1 locs1 ls hP1 hS1 hl
end FILL
section FILLX
variable {K : vK} {Y : yG} {cc : ByteArray} {nL : Nat} {own : String} {Ts : List Cond} {rm : Room} {u : XS} {lv : List (Nat × Value)} {st : List Value} {pc : Nat}
theorem fX_len (n : Nat) (hE : eV K (gX Y) cc nL own Ts rm) {idx : Nat} {x : Nat} (hG : GoodIn Ts (va_wsS own idx yJ7_fill_53178 wsJ7_fill_53178)) (hrm : 1 ≤ rm.frames ∧ 23 ≤ rm.locals) (hcat : (st.map fun v => v.category).sum ≤ 8) (hd : decode cc pc = .ok (.invokestatic idx, 3)) (hn : pc + 3 = n) (k : vV K (gX Y) (xs_len u (fun _ => x)) lv st n) : vV K (gX Y) u lv (.int (nI x) :: .ref (yA Y 9) :: st) pc := v_fillI n hE 9 0 rfl rfl (by decide) hG hrm hcat rfl hd hn k
theorem fX_cost (n : Nat) (hE : eV K (gX Y) cc nL own Ts rm) {idx : Nat} {x : Nat} (hG : GoodIn Ts (va_wsS own idx yJ7_fill_53178 wsJ7_fill_53178)) (hrm : 1 ≤ rm.frames ∧ 23 ≤ rm.locals) (hcat : (st.map fun v => v.category).sum ≤ 8) (hd : decode cc pc = .ok (.invokestatic idx, 3)) (hn : pc + 3 = n) (k : vV K (gX Y) (xs_cost u (fun _ => x)) lv st n) : vV K (gX Y) u lv (.int (nI x) :: .ref (yA Y 11) :: st) pc := v_fillI n hE 11 0 rfl rfl (by decide) hG hrm hcat rfl hd hn k
theorem fX_dem (n : Nat) (hE : eV K (gX Y) cc nL own Ts rm) {idx : Nat} {x : Int32} (hG : GoodIn Ts (va_wsS own idx yJ7_fill_53178 wsJ7_fill_53178)) (hrm : 1 ≤ rm.frames ∧ 23 ≤ rm.locals) (hcat : (st.map fun v => v.category).sum ≤ 8) (hd : decode cc pc = .ok (.invokestatic idx, 3)) (hn : pc + 3 = n) (k : vV K (gX Y) (xs_dem u (fun _ => x)) lv st n) : vV K (gX Y) u lv (.int x :: .ref (yA Y 2) :: st) pc := v_fillI n hE 2 0 rfl rfl (by decide) hG hrm hcat rfl hd hn k
theorem fX_load (n : Nat) (hE : eV K (gX Y) cc nL own Ts rm) {idx : Nat} {x : Int32} (hG : GoodIn Ts (va_wsS own idx yJ7_fill_53178 wsJ7_fill_53178)) (hrm : 1 ≤ rm.frames ∧ 23 ≤ rm.locals) (hcat : (st.map fun v => v.category).sum ≤ 8) (hd : decode cc pc = .ok (.invokestatic idx, 3)) (hn : pc + 3 = n) (k : vV K (gX Y) (xs_load u (fun _ => x)) lv st n) : vV K (gX Y) u lv (.int x :: .ref (yA Y 12) :: st) pc := v_fillI n hE 12 0 rfl rfl (by decide) hG hrm hcat rfl hd hn k
theorem fX_out (n : Nat) (hE : eV K (gX Y) cc nL own Ts rm) {idx : Nat} {x : Int32} (hG : GoodIn Ts (va_wsS own idx yJ7_fill_53178 wsJ7_fill_53178)) (hrm : 1 ≤ rm.frames ∧ 23 ≤ rm.locals) (hcat : (st.map fun v => v.category).sum ≤ 8) (hd : decode cc pc = .ok (.invokestatic idx, 3)) (hn : pc + 3 = n) (k : vV K (gX Y) (xs_out u (fun _ => x)) lv st n) : vV K (gX Y) u lv (.int x :: .ref (yA Y 13) :: st) pc := v_fillI n hE 13 0 rfl rfl (by decide) hG hrm hcat rfl hd hn k
theorem fX_inn (n : Nat) (hE : eV K (gX Y) cc nL own Ts rm) {idx : Nat} {x : Int32} (hG : GoodIn Ts (va_wsS own idx yJ7_fill_53178 wsJ7_fill_53178)) (hrm : 1 ≤ rm.frames ∧ 23 ≤ rm.locals) (hcat : (st.map fun v => v.category).sum ≤ 8) (hd : decode cc pc = .ok (.invokestatic idx, 3)) (hn : pc + 3 = n) (k : vV K (gX Y) (xs_inn u (fun _ => x)) lv st n) : vV K (gX Y) u lv (.int x :: .ref (yA Y 14) :: st) pc := v_fillI n hE 14 0 rfl rfl (by decide) hG hrm hcat rfl hd hn k
theorem fX_pv (n : Nat) (hE : eV K (gX Y) cc nL own Ts rm) {idx : Nat} {x : Int32} (hG : GoodIn Ts (va_wsS own idx yJ7_fill_53178 wsJ7_fill_53178)) (hrm : 1 ≤ rm.frames ∧ 23 ≤ rm.locals) (hcat : (st.map fun v => v.category).sum ≤ 8) (hd : decode cc pc = .ok (.invokestatic idx, 3)) (hn : pc + 3 = n) (k : vV K (gX Y) (xs_pv u (fun _ => x)) lv st n) : vV K (gX Y) u lv (.int x :: .ref (yA Y 15) :: st) pc := v_fillI n hE 15 0 rfl rfl (by decide) hG hrm hcat rfl hd hn k
theorem fX_rop (n : Nat) (hE : eV K (gX Y) cc nL own Ts rm) {idx : Nat}  (hG : GoodIn Ts (va_wsS own idx yJ7_fill_53178 wsJ7_fill_53178)) (hrm : 1 ≤ rm.frames ∧ 23 ≤ rm.locals) (hcat : (st.map fun v => v.category).sum ≤ 8) (hd : decode cc pc = .ok (.invokestatic idx, 3)) (hn : pc + 3 = n) (k : vV K (gX Y) (xs_rop u (fun _ => none)) lv st n) : vV K (gX Y) u lv (.int (-1) :: .ref (yA Y 17) :: st) pc := v_fillI n hE 17 0 rfl rfl (by decide) hG hrm hcat rfl hd hn k
theorem fX_por (n : Nat) (hE : eV K (gX Y) cc nL own Ts rm) {idx : Nat}  (hG : GoodIn Ts (va_wsS own idx yJ7_fill_53178 wsJ7_fill_53178)) (hrm : 1 ≤ rm.frames ∧ 23 ≤ rm.locals) (hcat : (st.map fun v => v.category).sum ≤ 8) (hd : decode cc pc = .ok (.invokestatic idx, 3)) (hn : pc + 3 = n) (k : vV K (gX Y) (xs_por u (fun _ => none)) lv st n) : vV K (gX Y) u lv (.int (-1) :: .ref (yA Y 18) :: st) pc := v_fillI n hE 18 0 rfl rfl (by decide) hG hrm hcat rfl hd hn k
theorem fX_val (n : Nat) (hE : eV K (gX Y) cc nL own Ts rm) {idx : Nat} {x : Int64} (hG : GoodIn Ts (va_wsS own idx yJ7_fill_d0a16 wsJ7_fill_d0a16)) (hrm : 1 ≤ rm.frames ∧ 24 ≤ rm.locals) (hcat : (st.map fun v => v.category).sum ≤ 8) (hd : decode cc pc = .ok (.invokestatic idx, 3)) (hn : pc + 3 = n) (k : vV K (gX Y) (xs_val u (fun _ => x)) lv st n) : vV K (gX Y) u lv (.long x :: .ref (yA Y 20) :: st) pc := v_fillL n hE 20 1 rfl rfl (by decide) hG hrm hcat rfl hd hn k
theorem cX_rowF (Y : yG) (u : XS) {i : Nat} (hi : i < 12) (f : Nat → Int64) : (cX Y u).set (i + 47) (yW Y i, .inl (yC Y 1, 26, .inr (.inl f))) = cX Y (xs_row u (va_up (x_row u) i f)) := by
  unfold cX
  rw [show i + 47 = (i + 25) + 22 from rfl]
  simp only [List.set_cons_succ]
  congr 22
  rw [List.set_append_right _ _ (by simp)]
  simp only [List.length_map, List.length_range, Nat.add_sub_cancel]
  rw [set_map]
  congr 1
  apply List.map_congr_left
  intro t _
  show va_up _ i _ t = ((yW Y t, .inl (yC Y 1, 26, .inr (.inl (va_up (x_row u) i f t)))) : Nat × va_E)
  by_cases e : t = i
  · subst e
    simp only [va_up_self]
  · simp only [va_up_ne _ _ e]
theorem fX_row (n : Nat) (hE : eV K (gX Y) cc nL own Ts rm) {i idx : Nat} {x : Int64} (hi : i < 12) (hG : GoodIn Ts (va_wsS own idx yJ7_fill_d0a16 wsJ7_fill_d0a16)) (hrm : 1 ≤ rm.frames ∧ 24 ≤ rm.locals) (hcat : (st.map fun v => v.category).sum ≤ 8) (hd : decode cc pc = .ok (.invokestatic idx, 3)) (hn : pc + 3 = n) (k : vV K (gX Y) (xs_row u (va_up (x_row u) i (fun _ => x))) lv st n) : vV K (gX Y) u lv (.long x :: .ref (yW Y i) :: st) pc := v_fillL n hE (i + 47) 1 (cX_row Y u hi) rfl (by decide) hG hrm hcat (cX_rowF Y u hi _) hd hn k
theorem copyX_rem (n : Nat) (hE : eV K (gX Y) cc nL own Ts rm) {idx : Nat} (hlink : Cond.methodLink own idx arraycopyName ∈ Ts) (hnat : Cond.native arraycopyName ∈ Ts) (hstat : Cond.static arraycopyName ∈ Ts) (hini : Cond.initialized "java/lang/System" ∈ Ts) (hrm : 1 ≤ rm.frames ∧ (st.map fun v => v.category).sum + (nativeFrameWords "java/lang/System" "arraycopy" 5 + 11) ≤ rm.locals) (hd : decode cc pc = .ok (.invokestatic idx, 3)) (hn : pc + 3 = n) (k : vV K (gX Y) (xs_rem u (va_cpy (x_val u) (x_rem u) 0 0 25)) lv st n) : vV K (gX Y) u lv (.int (nI 25) :: .int (nI 0) :: .ref (yA Y 21) :: .int (nI 0) :: .ref (yA Y 20) :: st) pc := v_copyL n hE 20 21 1 rfl rfl rfl (by decide) hlink hnat hstat hini hrm rfl hd hn k
end FILLX
end
section
/-! TrafficMatrix$Network -/
def okN (u : XS) : Prop := x_n u ≤ 5 ∧ x_m u ≤ 12 ∧ (∀ l, x_src u l < 5) ∧ (∀ l, x_tgt u l < 5) ∧ (∀ l, x_met u l ≤ 99) ∧ (∀ s, x_len u s ≤ 4) ∧ (∀ s j, x_lnk u s j < 12)
def inB (v : Int32) (n : Nat) : Bool := if v < 0 then false else if nI n ≤ v then false else true
theorem inB_t {v : Int32} {n : Nat} (hn : n < 2 ^ 31) (h : inB v n = true) : ∃ k : Nat, k < n ∧ v = nI k := by
  unfold inB at h
  rcases pk_ix v hn with q | q | q
  · simp [q] at h
  · simp [q] at h
  · exact q
theorem inB_nI {k n : Nat} (h : k < n) (hn : n < 2 ^ 31) : inB (nI k) n = true := by
  unfold inB
  rw [if_neg (nI_pos (by omega)), if_neg (nI_ge h hn)]
def uUses (len : Nat → Nat) (lnk : Nat → Nat → Nat) (s l : Nat) : Bool := anyB (fun j => decide (lnk s j = l)) (len s)
def uHas (len : Nat → Nat) (s : Nat) : Bool := decide (0 < len s)
def ldOf (us : Nat → Nat → Bool) (dem : Nat → Int32) (l : Nat) : Int32 := sumI (fun s => if us s l then dem s else 0) 25
/-! least costs to a target, in rounds over the links; the first link of a route; a route -/
def relax1 (w src tgt : Nat → Nat) (l : Nat) (c : Nat → Nat) : Nat → Nat := va_up c (src l) (if w l + c (tgt l) < c (src l) then w l + c (tgt l) else c (src l))
def relaxN (w src tgt : Nat → Nat) : Nat → (Nat → Nat) → Nat → Nat
  | 0, c => c
  | n + 1, c => relax1 w src tgt n (relaxN w src tgt n c)
def roundsN (w src tgt : Nat → Nat) (m : Nat) : Nat → (Nat → Nat) → Nat → Nat
  | 0, c => c
  | k + 1, c => relaxN w src tgt m (roundsN w src tgt m k c)
theorem relax1_le {w src tgt c : Nat → Nat} {l B : Nat} (h : ∀ v, c v ≤ B) : ∀ v, relax1 w src tgt l c v ≤ B := by
  intro v
  unfold relax1 va_up
  have := h v
  have := h (src l)
  split
  · split <;> omega
  · omega
theorem relaxN_le {w src tgt c : Nat → Nat} {B : Nat} (h : ∀ v, c v ≤ B) : ∀ n v, relaxN w src tgt n c v ≤ B
  | 0, v => h v
  | n + 1, v => relax1_le (relaxN_le h n) v
theorem roundsN_le {w src tgt c : Nat → Nat} {m B : Nat} (h : ∀ v, c v ≤ B) : ∀ n v, roundsN w src tgt m n c v ≤ B
  | 0, v => h v
  | n + 1, v => relaxN_le (roundsN_le h n) m v
def wX (met : Nat → Nat) (l : Nat) : Nat := met l * 8 + 1
def costsTo (w src tgt : Nat → Nat) (m k t : Nat) : Nat → Nat := roundsN w src tgt m k (va_up (fun _ => 1000000) t 0)
theorem costs0_le (t v : Nat) : va_up (fun _ => 1000000) t 0 v ≤ 1000000 := by unfold va_up; split <;> simp
theorem costsTo_le (w src tgt : Nat → Nat) (m k t v : Nat) : costsTo w src tgt m k t v ≤ 1000000 := roundsN_le (costs0_le t) k v
def nxtX (c w src tgt : Nat → Nat) (m v : Nat) : Option Nat := if 1000000 ≤ c v then none else fstN (fun l => decide (src l = v) && decide (w l + c (tgt l) = c v)) m
theorem nxtX_lt {c w src tgt : Nat → Nat} {m v l : Nat} (h : nxtX c w src tgt m v = some l) : l < m := by
  unfold nxtX at h
  split at h
  · cases h
  · exact (fstN_some.mp h).1
def walkN (nx : Nat → Option Nat) (tgt : Nat → Nat) (t : Nat) : Nat → Nat → Nat → (Nat → Nat) → Nat × Nat × (Nat → Nat)
  | 0, v, len, row => (v, len, row)
  | k + 1, v, len, row => if v = t then (v, len, row) else match nx v with
    | none => (v, len, row)
    | some l => walkN nx tgt t k (tgt l) (len + 1) (va_up row len l)
theorem walkN_t {nx : Nat → Option Nat} {tgt row : Nat → Nat} {t k v len : Nat} (h : v = t) : walkN nx tgt t k v len row = (v, len, row) := by
  cases k with
  | zero => rfl
  | succ k => simp [walkN, h]
theorem walkN_none {nx : Nat → Option Nat} {tgt row : Nat → Nat} {t k v len : Nat} (h : nx v = none) : walkN nx tgt t k v len row = (v, len, row) := by
  cases k with
  | zero => rfl
  | succ k => simp [walkN, h]
theorem walkN_some {nx : Nat → Option Nat} {tgt row : Nat → Nat} {t k v len l : Nat} (h : nx v = some l) (hv : ¬ v = t) : walkN nx tgt t (k + 1) v len row = walkN nx tgt t k (tgt l) (len + 1) (va_up row len l) := by simp [walkN, h, hv]
theorem walkN_ok {nx : Nat → Option Nat} {tgt : Nat → Nat} {t m : Nat} (hnx : ∀ v l, nx v = some l → l < m) : ∀ (k v len : Nat) (row : Nat → Nat), (∀ j, row j < m) → (walkN nx tgt t k v len row).2.1 ≤ len + k ∧ ∀ j, (walkN nx tgt t k v len row).2.2 j < m
  | 0, v, len, row, h => ⟨Nat.le_refl _, h⟩
  | k + 1, v, len, row, h => by
    by_cases hv : v = t
    · rw [walkN_t hv]
      exact ⟨by show len ≤ _; omega, h⟩
    · cases hl : nx v with
      | none =>
        rw [walkN_none hl]
        exact ⟨by show len ≤ _; omega, h⟩
      | some l =>
        rw [walkN_some hl hv]
        have := walkN_ok (tgt := tgt) (t := t) hnx k (tgt l) (len + 1) (va_up row len l) (fun j => by unfold va_up; split; exact hnx v l hl; exact h j)
        exact ⟨by omega, this.2⟩
abbrev rtL : Type := (Nat → Nat) × (Nat → Nat → Nat)
def rt1 (nx : Nat → Option Nat) (tgt : Nat → Nat) (t s : Nat) (L : rtL) : rtL :=
  (va_up L.1 (s * 5 + t) (if (walkN nx tgt t 4 s 0 (L.2 (s * 5 + t))).1 = t then (walkN nx tgt t 4 s 0 (L.2 (s * 5 + t))).2.1 else 0), va_up L.2 (s * 5 + t) (walkN nx tgt t 4 s 0 (L.2 (s * 5 + t))).2.2)
def rtN (nx : Nat → Option Nat) (tgt : Nat → Nat) (t : Nat) : Nat → rtL → rtL
  | 0, L => L
  | k + 1, L => rt1 nx tgt t k (rtN nx tgt t k L)
def rtT (w src tgt : Nat → Nat) (m n : Nat) : Nat → (Nat → Nat) × rtL → (Nat → Nat) × rtL
  | 0, z => z
  | t + 1, z => (costsTo w src tgt m 4 t, rtN (nxtX (costsTo w src tgt m 4 t) w src tgt m) tgt t n (rtT w src tgt m n t z).2)
def okL (m : Nat) (L : rtL) : Prop := (∀ s, L.1 s ≤ 4) ∧ ∀ s j, L.2 s j < m
theorem rt1_ok {nx : Nat → Option Nat} {tgt : Nat → Nat} {t s m : Nat} {L : rtL} (hnx : ∀ v l, nx v = some l → l < m) (h : okL m L) : okL m (rt1 nx tgt t s L) := by
  obtain ⟨h1, h2⟩ := walkN_ok (tgt := tgt) (t := t) hnx 4 s 0 (L.2 (s * 5 + t)) (h.2 _)
  refine ⟨fun q => ?_, fun q j => ?_⟩
  · show va_up _ _ _ q ≤ 4
    unfold va_up
    split
    · split <;> omega
    · exact h.1 q
  · show (va_up L.2 (s * 5 + t) _ : Nat → Nat → Nat) q j < m
    unfold va_up
    split
    · exact h2 j
    · exact h.2 q j
theorem rtN_ok {nx : Nat → Option Nat} {tgt : Nat → Nat} {t m : Nat} {L : rtL} (hnx : ∀ v l, nx v = some l → l < m) (h : okL m L) : ∀ k, okL m (rtN nx tgt t k L)
  | 0 => h
  | k + 1 => rt1_ok hnx (rtN_ok hnx h k)
theorem rtT_ok {w src tgt : Nat → Nat} {m n : Nat} {z : (Nat → Nat) × rtL} (hm : m ≤ 12) (h : okL 12 z.2) : ∀ t, okL 12 (rtT w src tgt m n t z).2
  | 0 => h
  | t + 1 => rtN_ok (fun v l q => Nat.lt_of_lt_of_le (nxtX_lt q) hm) (rtT_ok hm h t) n
/-- the network with costs, lengths and links of its own -/
abbrev xR (u : XS) (z : (Nat → Nat) × rtL) : XS := xs_lnk (xs_len (xs_cost u z.1) z.2.1) z.2.2
abbrev xRoutes (u : XS) : XS := xR u (rtT (wX (x_met u)) (x_src u) (x_tgt u) (x_m u) (x_n u) (x_n u) (x_cost u, x_len u, x_lnk u))
theorem okN_R {u : XS} (h : okN u) {z : (Nat → Nat) × rtL} (hz : okL 12 z.2) : okN (xR u z) := ⟨h.1, h.2.1, h.2.2.1, h.2.2.2.1, h.2.2.2.2.1, hz.1, hz.2⟩
theorem okN_Routes {u : XS} (h : okN u) : okN (xRoutes u) := okN_R h (rtT_ok h.2.1 ⟨h.2.2.2.2.2.1, h.2.2.2.2.2.2⟩ _)
theorem up_id {α : Type} (f : Nat → α) (k : Nat) : va_up f k (f k) = f := by
  funext q
  unfold va_up
  split
  · rename_i e; rw [e]
  · rfl
theorem up_2 {α : Type} (f : Nat → Nat → α) (k : Nat) (row : Nat → α) (j : Nat) (x : α) : va_up (va_up f k row) k (va_up (va_up f k row k) j x) = va_up f k (va_up row j x) := by
  have e : va_up f k row k = row := by simp [va_up]
  rw [e]
  funext q
  unfold va_up
  split <;> rfl
theorem oI_none {x : Option Nat} (h : ∀ k, x = some k → k < 2 ^ 31) (e : oI (-1) x = -1) : x = none := by
  cases x with
  | none => rfl
  | some k =>
    have h1 := h k rfl
    have e1 : nI k = -1 := e
    have := nI_toInt h1
    rw [e1] at this
    have h2 : (-1 : Int32).toInt = -1 := by decide
    omega
theorem oI_some {x : Option Nat} (e : ¬ oI (-1) x = -1) : ∃ k, x = some k := by
  cases x with
  | none => exact absurd rfl e
  | some k => exact ⟨k, rfl⟩
theorem v_minN {S : Type} {K : vK} {G : vG S} {cc : ByteArray} {nL : Nat} {own : String} {Ts : List Cond} {rm : Room} {u : S} {lv : List (Nat × Value)} {st : List Value} {pc : Nat} (n : Nat) (hE : eV K G cc nL own Ts rm) {index : Nat} (hlink : Cond.methodLink own index Lib.Math.min.name ∈ Ts) (hstat : Cond.static Lib.Math.min.name ∈ Ts) (hini : Cond.initialized "java/lang/Math" ∈ Ts) (hcode : Cond.code Lib.Math.min.name Lib.Math.min.code 2 (some .int) ∈ Ts) (hr : 1 ≤ rm.frames ∧ (st.map fun v => v.category).sum + 13 ≤ rm.locals) {x y : Nat} (hx : x < 2 ^ 31) (hy : y < 2 ^ 31) (hd : decode cc pc = .ok (.invokestatic index, 3)) (hn : pc + 3 = n) (k : vV K G u lv (.int (nI (if y < x then y else x)) :: st) n) : vV K G u lv (.int (nI y) :: .int (nI x) :: st) pc := by
  refine v_min n hE hlink hstat hini hcode hr hd hn ?_
  have e : (if nI y < nI x then nI y else nI x) = nI (if y < x then y else x) := by
    by_cases h : y < x
    · rw [if_pos h, if_pos ((nI_ltI hy hx).mpr h)]
    · rw [if_neg h, if_neg (fun q => h ((nI_ltI hy hx).mp q))]
  rw [e]
  exact k
set_option maxRecDepth 100000 in
set_option maxHeartbeats 4000000 in
theorem kX4_slotOf (l : Launch) (Y : yG) (u : XS) (s t : Nat)  : mI l (gX Y) yX4_slotOf wsX4_slotOf ({ frames := 0, cells := 0, slots := 0, locals := 0 }) [.int (nI s), .int (nI t)] u (nI (s * 5 + t)) u := by
  refine mI_of (cc := cX4_slotOf) (nL := 2) (own := RX4) (by decide) rfl rfl (fun v => cX_geo Y _ v) (Nat.le_of_ble_eq_true rfl) ?_
  intro K hKl hE hret
  show vV K (gX Y) u [(0, .int (nI s)), (1, .int (nI t))] [] 0
  refine v_iload_n 1 hE dX4_slotOf_0 rfl rfl ?_
  refine v_iconst 2 hE (v := nI 5) dX4_slotOf_1 (by decide) rfl ?_
  refine v_imulN 3 hE dX4_slotOf_2 rfl ?_
  refine v_iload_n 4 hE dX4_slotOf_3 rfl rfl ?_
  refine v_iaddN 5 hE dX4_slotOf_4 rfl ?_
  exact (hret _ _ dX4_slotOf_5).cast rfl (rI (by simp []))
set_option maxRecDepth 100000 in
set_option maxHeartbeats 4000000 in
theorem kX3_hasNode (l : Launch) (Y : yG) (u : XS) (v : Int32) (hok : okN u) : mI l (gX Y) yX3_hasNode wsX3_hasNode ({ frames := 0, cells := 0, slots := 0, locals := 0 }) [.ref (yA Y 1), .int v] u (bI (inB v (x_n u))) u := by
  refine mB_of (cc := cX3_hasNode) (nL := 2) (own := RX3) (by decide) rfl rfl (fun v => cX_geo Y _ v) (Nat.le_of_ble_eq_true rfl) ?_
  intro K hKl hE hret
  have f_0 : ∀ w ∈ u_ws RX3 TX3 8, w ∈ wsX3_hasNode := by decide +kernel
  have f_1 : Cond.fieldLink RX3 32 "TrafficMatrix$Network" "nodeCount" "I" ∈ wsX3_hasNode := by decide +kernel
  show vV K (gX Y) u [(0, .ref (yA Y 1)), (1, .int v)] [] 0
  refine v_iload_n 1 hE dX3_hasNode_0 rfl rfl ?_
  refine v_if_lt 4 hE 16 dX3_hasNode_1 (by decide) rfl (fun c1 => ?_) (fun c1 => ?_)
  · refine v_iconst 17 hE (v := nI 0) dX3_hasNode_16 (by decide) rfl ?_
    exact (hret _ _ dX3_hasNode_17).cast rfl (rB0 (by simp [inB, c1]))
  · refine v_iload_n 5 hE dX3_hasNode_4 rfl rfl ?_
    refine v_aload_n 6 hE dX3_hasNode_5 rfl rfl ?_
    refine gX_nodeCount 9 hE f_0 f_1 dX3_hasNode_6 rfl ?_
    refine v_ic_ge 12 hE 16 dX3_hasNode_9 (by decide) rfl (fun c9 => ?_) (fun c9 => ?_)
    · refine v_iconst 17 hE (v := nI 0) dX3_hasNode_16 (by decide) rfl ?_
      exact (hret _ _ dX3_hasNode_17).cast rfl (rB0 (by simp [inB, c1, c9]))
    · refine v_iconst 13 hE (v := nI 1) dX3_hasNode_12 (by decide) rfl ?_
      refine v_goto hE 17 dX3_hasNode_13 (by decide) ?_
      exact (hret _ _ dX3_hasNode_17).cast rfl (rB1 (by simp [inB, c1, c9]))
set_option maxRecDepth 100000 in
set_option maxHeartbeats 4000000 in
theorem kX3_hasLink (l : Launch) (Y : yG) (u : XS) (v : Int32) (hok : okN u) : mI l (gX Y) yX3_hasLink wsX3_hasLink ({ frames := 0, cells := 0, slots := 0, locals := 0 }) [.ref (yA Y 1), .int v] u (bI (inB v (x_m u))) u := by
  refine mB_of (cc := cX3_hasLink) (nL := 2) (own := RX3) (by decide) rfl rfl (fun v => cX_geo Y _ v) (Nat.le_of_ble_eq_true rfl) ?_
  intro K hKl hE hret
  have f_0 : ∀ w ∈ u_ws RX3 TX3 8, w ∈ wsX3_hasLink := by decide +kernel
  have f_1 : Cond.fieldLink RX3 36 "TrafficMatrix$Network" "linkCount" "I" ∈ wsX3_hasLink := by decide +kernel
  show vV K (gX Y) u [(0, .ref (yA Y 1)), (1, .int v)] [] 0
  refine v_iload_n 1 hE dX3_hasLink_0 rfl rfl ?_
  refine v_if_lt 4 hE 16 dX3_hasLink_1 (by decide) rfl (fun c1 => ?_) (fun c1 => ?_)
  · refine v_iconst 17 hE (v := nI 0) dX3_hasLink_16 (by decide) rfl ?_
    exact (hret _ _ dX3_hasLink_17).cast rfl (rB0 (by simp [inB, c1]))
  · refine v_iload_n 5 hE dX3_hasLink_4 rfl rfl ?_
    refine v_aload_n 6 hE dX3_hasLink_5 rfl rfl ?_
    refine gX_linkCount 9 hE f_0 f_1 dX3_hasLink_6 rfl ?_
    refine v_ic_ge 12 hE 16 dX3_hasLink_9 (by decide) rfl (fun c9 => ?_) (fun c9 => ?_)
    · refine v_iconst 17 hE (v := nI 0) dX3_hasLink_16 (by decide) rfl ?_
      exact (hret _ _ dX3_hasLink_17).cast rfl (rB0 (by simp [inB, c1, c9]))
    · refine v_iconst 13 hE (v := nI 1) dX3_hasLink_12 (by decide) rfl ?_
      refine v_goto hE 17 dX3_hasLink_13 (by decide) ?_
      exact (hret _ _ dX3_hasLink_17).cast rfl (rB1 (by simp [inB, c1, c9]))
set_option maxRecDepth 100000 in
set_option maxHeartbeats 4000000 in
theorem kX3_hasRoute (l : Launch) (Y : yG) (u : XS) (s : Nat) (hok : okN u) (hs : s < 25) : mI l (gX Y) yX3_hasRoute wsX3_hasRoute ({ frames := 0, cells := 0, slots := 0, locals := 0 }) [.ref (yA Y 1), .int (nI s)] u (bI (uHas (x_len u) s)) u := by
  obtain ⟨hn, hm, hsrc, htgt, hmet, hlen, hlnk⟩ := id hok
  refine mB_of (cc := cX3_hasRoute) (nL := 2) (own := RX3) (by decide) rfl rfl (fun v => cX_geo Y _ v) (Nat.le_of_ble_eq_true rfl) ?_
  intro K hKl hE hret
  have f_0 : ∀ w ∈ u_ws RX3 TX3 8, w ∈ wsX3_hasRoute := by decide +kernel
  have f_1 : Cond.fieldLink RX3 21 "TrafficMatrix$Network" "routeLengths" "[I" ∈ wsX3_hasRoute := by decide +kernel
  show vV K (gX Y) u [(0, .ref (yA Y 1)), (1, .int (nI s))] [] 0
  refine v_aload_n 1 hE dX3_hasRoute_0 rfl rfl ?_
  refine gX_routeLengths 4 hE f_0 f_1 dX3_hasRoute_1 rfl ?_
  refine v_iload_n 5 hE dX3_hasRoute_4 rfl rfl ?_
  refine lX_len 6 hE (by omega) dX3_hasRoute_5 rfl ?_
  have := hlen s
  refine v_if_leN 9 hE 13 dX3_hasRoute_6 (by decide) (by omega) rfl (fun c6 => ?_) (fun c6 => ?_)
  · refine v_iconst 14 hE (v := nI 0) dX3_hasRoute_13 (by decide) rfl ?_
    exact (hret _ _ dX3_hasRoute_14).cast rfl (rB0 (by simp [uHas, c6]))
  · refine v_iconst 10 hE (v := nI 1) dX3_hasRoute_9 (by decide) rfl ?_
    refine v_goto hE 14 dX3_hasRoute_10 (by decide) ?_
    exact (hret _ _ dX3_hasRoute_14).cast rfl (rB1 (by simp [uHas, c6]))
set_option maxRecDepth 100000 in
set_option maxHeartbeats 4000000 in
theorem kX3_routeUses (l : Launch) (Y : yG) (u : XS) (s k : Nat) (hok : okN u) (hs : s < 25) (hk : k < 12) : mI l (gX Y) yX3_routeUses wsX3_routeUses ({ frames := 0, cells := 0, slots := 0, locals := 0 }) [.ref (yA Y 1), .int (nI s), .int (nI k)] u (bI (uUses (x_len u) (x_lnk u) s k)) u := by
  obtain ⟨hn, hm, hsrc, htgt, hmet, hlen, hlnk⟩ := id hok
  have h4 := hlen s
  refine mB_of (cc := cX3_routeUses) (nL := 4) (own := RX3) (by decide) rfl rfl (fun v => cX_geo Y _ v) (Nat.le_of_ble_eq_true rfl) ?_
  intro K hKl hE hret
  have f_0 : ∀ w ∈ u_ws RX3 TX3 8, w ∈ wsX3_routeUses := by decide +kernel
  have f_1 : Cond.fieldLink RX3 21 "TrafficMatrix$Network" "routeLengths" "[I" ∈ wsX3_routeUses := by decide +kernel
  have f_2 : Cond.fieldLink RX3 26 "TrafficMatrix$Network" "routeLinks" "[[I" ∈ wsX3_routeUses := by decide +kernel
  show vV K (gX Y) u [(0, .ref (yA Y 1)), (1, .int (nI s)), (2, .int (nI k))] [] 0
  refine v_iconst 1 hE (v := nI 0) dX3_routeUses_0 (by decide) rfl ?_
  refine v_istore_n 2 hE [_, _, _, _] dX3_routeUses_1 rfl (by decide) rfl rfl ?_
  refine vV.sub [1, 2, 3, 0] rfl ?_
  have L2 : ∀ (n2 : Nat) (i : Nat), (i ≤ x_len u s) → (∀ j, j < i → ¬ x_lnk u s j = k) → x_len u s + 1 ≤ i + n2 → vV K (gX Y) u [(0, .ref (yA Y 1)), (1, .int (nI s)), (2, .int (nI k)), (3, .int (nI i))] [] 2 := by
    intro n2
    induction n2 with
    | zero => intro i hi hno hfu2; exact absurd hfu2 (by omega)
    | succ n2 ih2 =>
      intro i hi hno hfu2
      refine v_iload_n 3 hE dX3_routeUses_2 rfl rfl ?_
      refine v_aload_n 4 hE dX3_routeUses_3 rfl rfl ?_
      refine gX_routeLengths 7 hE f_0 f_1 dX3_routeUses_4 rfl ?_
      refine v_iload_n 8 hE dX3_routeUses_7 rfl rfl ?_
      refine lX_len 9 hE (by omega) dX3_routeUses_8 rfl ?_
      refine v_ic_geN 12 hE 32 dX3_routeUses_9 (by decide) (by omega) (by omega) rfl (fun c9 => ?_) (fun c9 => ?_)
      · refine v_iconst 33 hE (v := nI 0) dX3_routeUses_32 (by decide) rfl ?_
        exact (hret _ _ dX3_routeUses_33).cast rfl (rB0 (anyB_f.mpr (fun j hj => by simpa using hno j (by omega))))
      · refine v_aload_n 13 hE dX3_routeUses_12 rfl rfl ?_
        refine gX_routeLinks 16 hE f_0 f_2 dX3_routeUses_13 rfl ?_
        refine v_iload_n 17 hE dX3_routeUses_16 rfl rfl ?_
        refine rX_lnk 18 hE (by omega) dX3_routeUses_17 rfl ?_
        refine v_iload_n 19 hE dX3_routeUses_18 rfl rfl ?_
        refine lX_lnk 20 hE (by omega) (by omega) dX3_routeUses_19 rfl ?_
        have := hlnk s i
        refine v_iload_n 21 hE dX3_routeUses_20 rfl rfl ?_
        refine v_ic_neN 24 hE 26 dX3_routeUses_21 (by decide) (by omega) (by omega) rfl (fun c21 => ?_) (fun c21 => ?_)
        · refine v_iincN 29 hE [_, _, _, _] dX3_routeUses_26 rfl (by decide) rfl rfl ?_
          refine v_goto hE 2 dX3_routeUses_29 (by decide) ?_
          refine vV.sub [1, 2, 3, 0] rfl ?_
          exact ih2 _ (by omega) (by intro j hj; by_cases e : j = i; (subst e; exact c21); exact hno j (by omega)) (by omega)
        · refine v_iconst 25 hE (v := nI 1) dX3_routeUses_24 (by decide) rfl ?_
          exact (hret _ _ dX3_routeUses_25).cast rfl (rB1 (anyB_t.mpr ⟨i, by omega, by simp [c21]⟩))
  exact L2 (x_len u s + 1) _ (by omega) (by intro j hj; omega) (by omega)
set_option maxRecDepth 100000 in
set_option maxHeartbeats 4000000 in
theorem kX3_loadOf (l : Launch) (Y : yG) (u : XS) (k : Nat) (hok : okN u) (hk : k < 12) : mI l (gX Y) yX3_loadOf wsX3_loadOf ({ frames := 1, cells := 0, slots := 0, locals := 23 }) [.ref (yA Y 1), .int (nI k), .ref (yA Y 2)] u (ldOf (uUses (x_len u) (x_lnk u)) (x_dem u) k) u := by
  refine mI_of (cc := cX3_loadOf) (nL := 5) (own := RX3) (by decide) rfl rfl (fun v => cX_geo Y _ v) (Nat.le_of_ble_eq_true rfl) ?_
  intro K hKl hE hret
  show vV K (gX Y) u [(0, .ref (yA Y 1)), (1, .int (nI k)), (2, .ref (yA Y 2))] [] 0
  refine v_iconst 1 hE (v := 0) dX3_loadOf_0 (by decide) rfl ?_
  refine v_istore_n 2 hE [_, _, _, _] dX3_loadOf_1 rfl (by decide) rfl rfl ?_
  refine v_iconst 3 hE (v := nI 0) dX3_loadOf_2 (by decide) rfl ?_
  refine v_istore 5 hE [_, _, _, _, _] dX3_loadOf_3 (by decide) rfl rfl ?_
  refine vV.sub [2, 3, 4, 1, 0] rfl ?_
  have L5 : ∀ (n5 : Nat) (a : Int32) (i : Nat), (i ≤ 25) → (a = sumI (fun s => if uUses (x_len u) (x_lnk u) s k then x_dem u s else 0) i) → 25 + 1 ≤ i + n5 → vV K (gX Y) u [(0, .ref (yA Y 1)), (1, .int (nI k)), (2, .ref (yA Y 2)), (3, .int a), (4, .int (nI i))] [] 5 := by
    intro n5
    induction n5 with
    | zero => intro a i hi ha hfu5; exact absurd hfu5 (by omega)
    | succ n5 ih5 =>
      intro a i hi ha hfu5
      refine v_iload 7 hE dX3_loadOf_5 rfl rfl ?_
      refine v_bipush 9 hE (v := nI 25) dX3_loadOf_7 (by decide) rfl ?_
      refine v_ic_geN 12 hE 35 dX3_loadOf_9 (by decide) (by omega) (by omega) rfl (fun c9 => ?_) (fun c9 => ?_)
      · refine v_iload_n 36 hE dX3_loadOf_35 rfl rfl ?_
        exact (hret _ _ dX3_loadOf_36).cast rfl (rI (by rw [ha, show i = 25 by omega]; rfl))
      · refine v_aload_n 13 hE dX3_loadOf_12 rfl rfl ?_
        refine v_iload 15 hE dX3_loadOf_13 rfl rfl ?_
        refine v_iload_n 16 hE dX3_loadOf_15 rfl rfl ?_
        refine v_ciE 19 hE (v_runV 2 hE (vSub.self hE) (kX3_routeUses _ Y _ _ _ hok (by omega) (by omega)) gX3_loadOf_X3_routeUses rfl (by decide +kernel) rfl (q0 := 1) rfl rfl ⟨rfl, rfl, by decide, by decide⟩ rfl (Nat.le_of_ble_eq_true rfl) dX3_loadOf_16) rfl ?_
        refine v_if_eqB 22 hE 29 dX3_loadOf_19 (by decide) rfl (fun c19 => ?_) (fun c19 => ?_)
        · refine v_iincN 32 hE [_, _, _, _, _] dX3_loadOf_29 rfl (by decide) rfl rfl ?_
          refine v_goto hE 5 dX3_loadOf_32 (by decide) ?_
          refine vV.sub [1, 2, 3, 4, 0] rfl ?_
          exact ih5 _ _ (by omega) (by simp [sumI, ha, c9, c19]) (by omega)
        · refine v_iload_n 23 hE dX3_loadOf_22 rfl rfl ?_
          refine v_aload_n 24 hE dX3_loadOf_23 rfl rfl ?_
          refine v_iload 26 hE dX3_loadOf_24 rfl rfl ?_
          refine lX_dem 27 hE (by omega) dX3_loadOf_26 rfl ?_
          refine v_iadd 28 hE dX3_loadOf_27 rfl ?_
          refine v_istore_n 29 hE [_, _, _, _, _] dX3_loadOf_28 rfl (by decide) rfl rfl ?_
          refine v_iincN 32 hE [_, _, _, _, _] dX3_loadOf_29 rfl (by decide) rfl rfl ?_
          refine v_goto hE 5 dX3_loadOf_32 (by decide) ?_
          refine vV.sub [2, 3, 4, 1, 0] rfl ?_
          exact ih5 _ _ (by omega) (by simp [sumI, ha, c9, c19]) (by omega)
  exact L5 (25 + 1) _ _ (by omega) rfl (by omega)
set_option maxRecDepth 100000 in
set_option maxHeartbeats 4000000 in
theorem kX3_costOver (l : Launch) (Y : yG) (u : XS) (k : Nat) (hok : okN u) (hk : k < 12) : mI l (gX Y) yX3_costOver wsX3_costOver ({ frames := 0, cells := 0, slots := 0, locals := 0 }) [.ref (yA Y 1), .int (nI k)] u (nI (x_met u k * 8 + 1 + x_cost u (x_tgt u k))) u := by
  obtain ⟨hn, hm, hsrc, htgt, hmet, hlen, hlnk⟩ := id hok
  refine mI_of (cc := cX3_costOver) (nL := 2) (own := RX3) (by decide) rfl rfl (fun v => cX_geo Y _ v) (Nat.le_of_ble_eq_true rfl) ?_
  intro K hKl hE hret
  have f_0 : ∀ w ∈ u_ws RX3 TX3 8, w ∈ wsX3_costOver := by decide +kernel
  have f_1 : Cond.fieldLink RX3 18 "TrafficMatrix$Network" "metrics" "[I" ∈ wsX3_costOver := by decide +kernel
  have f_2 : Cond.fieldLink RX3 29 "TrafficMatrix$Network" "costs" "[I" ∈ wsX3_costOver := by decide +kernel
  have f_3 : Cond.fieldLink RX3 15 "TrafficMatrix$Network" "targets" "[I" ∈ wsX3_costOver := by decide +kernel
  show vV K (gX Y) u [(0, .ref (yA Y 1)), (1, .int (nI k))] [] 0
  refine v_aload_n 1 hE dX3_costOver_0 rfl rfl ?_
  refine gX_metrics 4 hE f_0 f_1 dX3_costOver_1 rfl ?_
  refine v_iload_n 5 hE dX3_costOver_4 rfl rfl ?_
  refine lX_met 6 hE (by omega) dX3_costOver_5 rfl ?_
  refine v_bipush 8 hE (v := nI 8) dX3_costOver_6 (by decide) rfl ?_
  refine v_imulN 9 hE dX3_costOver_8 rfl ?_
  refine v_iconst 10 hE (v := nI 1) dX3_costOver_9 (by decide) rfl ?_
  refine v_iaddN 11 hE dX3_costOver_10 rfl ?_
  refine v_aload_n 12 hE dX3_costOver_11 rfl rfl ?_
  refine gX_costs 15 hE f_0 f_2 dX3_costOver_12 rfl ?_
  refine v_aload_n 16 hE dX3_costOver_15 rfl rfl ?_
  refine gX_targets 19 hE f_0 f_3 dX3_costOver_16 rfl ?_
  refine v_iload_n 20 hE dX3_costOver_19 rfl rfl ?_
  refine lX_tgt 21 hE (by omega) dX3_costOver_20 rfl ?_
  refine lX_cost 22 hE (htgt k) dX3_costOver_21 rfl ?_
  refine v_iaddN 23 hE dX3_costOver_22 rfl ?_
  exact (hret _ _ dX3_costOver_23).cast rfl (rI (by simp []))
set_option maxRecDepth 100000 in
set_option maxHeartbeats 4000000 in
theorem kX3_findCostsTo (l : Launch) (Y : yG) (u : XS) (t : Nat) (hok : okN u) (ht : t < 5) : mV l (gX Y) yX3_findCostsTo wsX3_findCostsTo ({ frames := 1, cells := 0, slots := 0, locals := 23 }) [.ref (yA Y 1), .int (nI t)] u (xs_cost u (costsTo (wX (x_met u)) (x_src u) (x_tgt u) (x_m u) 4 t)) := by
  obtain ⟨hn, hm, hsrc, htgt, hmet, hlen, hlnk⟩ := id hok
  refine mV_of (cc := cX3_findCostsTo) (nL := 5) (own := RX3) (by decide) rfl rfl (fun v => cX_geo Y _ v) (Nat.le_of_ble_eq_true rfl) ?_
  intro K hKl hE hret
  have f_0 : ∀ w ∈ u_ws RX3 TX3 8, w ∈ wsX3_findCostsTo := by decide +kernel
  have f_1 : Cond.fieldLink RX3 29 "TrafficMatrix$Network" "costs" "[I" ∈ wsX3_findCostsTo := by decide +kernel
  have f_2 : Jvm.Cond.constant RX3 60 1000000 ∈ wsX3_findCostsTo := by decide +kernel
  have f_3 : Cond.fieldLink RX3 36 "TrafficMatrix$Network" "linkCount" "I" ∈ wsX3_findCostsTo := by decide +kernel
  have f_4 : Cond.fieldLink RX3 9 "TrafficMatrix$Network" "sources" "[I" ∈ wsX3_findCostsTo := by decide +kernel
  have f_5 : Cond.methodLink RX3 65 Lib.Math.min.name ∈ wsX3_findCostsTo := by decide +kernel
  have f_6 : Cond.static Lib.Math.min.name ∈ wsX3_findCostsTo := by decide +kernel
  have f_7 : Cond.initialized "java/lang/Math" ∈ wsX3_findCostsTo := by decide +kernel
  have f_8 : Cond.code Lib.Math.min.name Lib.Math.min.code 2 (some .int) ∈ wsX3_findCostsTo := by decide +kernel
  show vV K (gX Y) u [(0, .ref (yA Y 1)), (1, .int (nI t))] [] 0
  refine v_aload_n 1 hE dX3_findCostsTo_0 rfl rfl ?_
  refine gX_costs 4 hE f_0 f_1 dX3_findCostsTo_1 rfl ?_
  refine v_ldc 6 hE (v := nI 1000000) f_2 dX3_findCostsTo_4 rfl ?_
  refine fX_cost 9 hE gX3_findCostsTo_J7_fill_53178 ⟨by decide, by decide⟩ (Nat.le_of_ble_eq_true rfl) dX3_findCostsTo_6 rfl ?_
  refine v_aload_n 10 hE dX3_findCostsTo_9 rfl rfl ?_
  refine gX_costs 13 hE f_0 f_1 dX3_findCostsTo_10 rfl ?_
  refine v_iload_n 14 hE dX3_findCostsTo_13 rfl rfl ?_
  refine v_iconst 15 hE (v := nI 0) dX3_findCostsTo_14 (by decide) rfl ?_
  refine sX_cost 16 hE (by omega) dX3_findCostsTo_15 rfl ?_
  refine v_iconst 17 hE (v := nI 0) dX3_findCostsTo_16 (by decide) rfl ?_
  refine v_istore_n 18 hE [_, _, _] dX3_findCostsTo_17 rfl (by decide) rfl rfl ?_
  refine vV.sub [1, 2, 0] rfl ?_
  have L18 : ∀ (n18 : Nat) (h : Nat) (c : Nat → Nat), (h ≤ 4) → (c = roundsN (wX (x_met u)) (x_src u) (x_tgt u) (x_m u) h (va_up (fun _ => 1000000) t 0)) → 4 + 1 ≤ h + n18 → vV K (gX Y) (xs_cost u c) [(0, .ref (yA Y 1)), (1, .int (nI t)), (2, .int (nI h))] [] 18 := by
    intro n18
    induction n18 with
    | zero => intro h c hh hc hfu18; exact absurd hfu18 (by omega)
    | succ n18 ih18 =>
      intro h c hh hc hfu18
      refine v_iload_n 19 hE dX3_findCostsTo_18 rfl rfl ?_
      refine v_iconst 20 hE (v := nI 4) dX3_findCostsTo_19 (by decide) rfl ?_
      refine v_ic_geN 23 hE 75 dX3_findCostsTo_20 (by decide) (by omega) (by omega) rfl (fun c20 => ?_) (fun c20 => ?_)
      · exact (hret _ _ dX3_findCostsTo_75).cast (by rw [hc, show h = 4 by omega]; rfl) rfl
      · refine v_iconst 24 hE (v := nI 0) dX3_findCostsTo_23 (by decide) rfl ?_
        refine v_istore_n 25 hE [_, _, _, _] dX3_findCostsTo_24 rfl (by decide) rfl rfl ?_
        refine vV.sub [1, 2, 3, 0] rfl ?_
        have L25 : ∀ (n25 : Nat) (k : Nat) (d : Nat → Nat), (k ≤ x_m u) → (d = relaxN (wX (x_met u)) (x_src u) (x_tgt u) k c) → x_m u + 1 ≤ k + n25 → vV K (gX Y) (xs_cost u d) [(0, .ref (yA Y 1)), (1, .int (nI t)), (2, .int (nI h)), (3, .int (nI k))] [] 25 := by
          intro n25
          induction n25 with
          | zero => intro k d hk hd hfu25; exact absurd hfu25 (by omega)
          | succ n25 ih25 =>
            intro k d hk hd hfu25
            refine v_iload_n 26 hE dX3_findCostsTo_25 rfl rfl ?_
            refine v_aload_n 27 hE dX3_findCostsTo_26 rfl rfl ?_
            refine gX_linkCount 30 hE f_0 f_3 dX3_findCostsTo_27 rfl ?_
            show vV K (gX Y) _ _ (.int (nI (x_m u)) :: _) _
            refine v_ic_geN 33 hE 69 dX3_findCostsTo_30 (by decide) (by omega) (by omega) rfl (fun c30 => ?_) (fun c30 => ?_)
            · refine v_iincN 72 hE [_, _, _, _] dX3_findCostsTo_69 rfl (by decide) rfl rfl ?_
              refine v_goto hE 18 dX3_findCostsTo_72 (by decide) ?_
              refine vV.sub [1, 2, 0] rfl ?_
              exact ih18 _ _ (by omega) (by rw [hd, hc, show k = x_m u by omega]; rfl) (by omega)
            · have hdb : ∀ v, d v ≤ 1000000 := by rw [hd, hc]; exact relaxN_le (roundsN_le (costs0_le t) h) k
              refine v_aload_n 34 hE dX3_findCostsTo_33 rfl rfl ?_
              refine gX_sources 37 hE f_0 f_4 dX3_findCostsTo_34 rfl ?_
              refine v_iload_n 38 hE dX3_findCostsTo_37 rfl rfl ?_
              refine lX_src 39 hE (by omega) dX3_findCostsTo_38 rfl ?_
              show vV K (gX Y) _ _ (.int (nI ((x_src u) _)) :: _) _
              refine v_istore 41 hE [_, _, _, _, _] dX3_findCostsTo_39 (by decide) rfl rfl ?_
              refine v_aload_n 42 hE dX3_findCostsTo_41 rfl rfl ?_
              refine gX_costs 45 hE f_0 f_1 dX3_findCostsTo_42 rfl ?_
              refine v_iload 47 hE dX3_findCostsTo_45 rfl rfl ?_
              refine v_aload_n 48 hE dX3_findCostsTo_47 rfl rfl ?_
              refine gX_costs 51 hE f_0 f_1 dX3_findCostsTo_48 rfl ?_
              refine v_iload 53 hE dX3_findCostsTo_51 rfl rfl ?_
              refine lX_cost 54 hE (hsrc k) dX3_findCostsTo_53 rfl ?_
              show vV K (gX Y) _ _ (.int (nI ((d) _)) :: _) _
              refine v_aload_n 55 hE dX3_findCostsTo_54 rfl rfl ?_
              refine v_iload_n 56 hE dX3_findCostsTo_55 rfl rfl ?_
              refine v_ciE 59 hE (v_runV 1 hE (vSub.self hE) (kX3_costOver _ Y _ _ hok (by omega)) gX3_findCostsTo_X3_costOver rfl (by decide +kernel) rfl (q0 := 1) rfl rfl ⟨rfl, rfl, by decide, by decide⟩ rfl (Nat.le_of_ble_eq_true rfl) dX3_findCostsTo_56) rfl ?_
              show vV K (gX Y) _ _ (.int (nI (x_met u _ * 8 + 1 + d (x_tgt u _))) :: _) _
              have := hdb (x_src u k)
              have := hdb (x_tgt u k)
              have := hmet k
              refine v_minN 62 hE f_5 f_6 f_7 f_8 ⟨by decide, Nat.le_of_ble_eq_true rfl⟩ (by omega) (by omega) dX3_findCostsTo_59 rfl ?_
              refine sX_cost 63 hE (hsrc k) dX3_findCostsTo_62 rfl ?_
              refine v_iincN 66 hE [_, _, _, _, _] dX3_findCostsTo_63 rfl (by decide) rfl rfl ?_
              refine v_goto hE 25 dX3_findCostsTo_66 (by decide) ?_
              refine vV.sub [2, 3, 4, 0] rfl ?_
              exact ih25 _ _ (by omega) (by rw [hd]; rfl) (by omega)
        exact L25 (x_m u + 1) _ _ (by omega) rfl (by omega)
  exact L18 (4 + 1) _ _ (by omega) rfl (by omega)
set_option maxRecDepth 100000 in
set_option maxHeartbeats 4000000 in
theorem kX3_cheapestFrom (l : Launch) (Y : yG) (u : XS) (v : Nat) (hok : okN u) (hv : v < 5) (hc : ∀ q, x_cost u q ≤ 1000000) : mI l (gX Y) yX3_cheapestFrom wsX3_cheapestFrom ({ frames := 1, cells := 0, slots := 0, locals := 21 }) [.ref (yA Y 1), .int (nI v)] u (oI (-1) (nxtX (x_cost u) (wX (x_met u)) (x_src u) (x_tgt u) (x_m u) v)) u := by
  obtain ⟨hn, hm, hsrc, htgt, hmet, hlen, hlnk⟩ := id hok
  refine mI_of (cc := cX3_cheapestFrom) (nL := 3) (own := RX3) (by decide) rfl rfl (fun v => cX_geo Y _ v) (Nat.le_of_ble_eq_true rfl) ?_
  intro K hKl hE hret
  have f_0 : ∀ w ∈ u_ws RX3 TX3 8, w ∈ wsX3_cheapestFrom := by decide +kernel
  have f_1 : Cond.fieldLink RX3 29 "TrafficMatrix$Network" "costs" "[I" ∈ wsX3_cheapestFrom := by decide +kernel
  have f_2 : Jvm.Cond.constant RX3 60 1000000 ∈ wsX3_cheapestFrom := by decide +kernel
  have f_3 : Cond.fieldLink RX3 36 "TrafficMatrix$Network" "linkCount" "I" ∈ wsX3_cheapestFrom := by decide +kernel
  have f_4 : Cond.fieldLink RX3 9 "TrafficMatrix$Network" "sources" "[I" ∈ wsX3_cheapestFrom := by decide +kernel
  show vV K (gX Y) u [(0, .ref (yA Y 1)), (1, .int (nI v))] [] 0
  refine v_aload_n 1 hE dX3_cheapestFrom_0 rfl rfl ?_
  refine gX_costs 4 hE f_0 f_1 dX3_cheapestFrom_1 rfl ?_
  refine v_iload_n 5 hE dX3_cheapestFrom_4 rfl rfl ?_
  refine lX_cost 6 hE (by omega) dX3_cheapestFrom_5 rfl ?_
  refine v_ldc 8 hE (v := nI 1000000) f_2 dX3_cheapestFrom_6 rfl ?_
  have := hc v
  refine v_ic_ltN 11 hE 13 dX3_cheapestFrom_8 (by decide) (by omega) (by omega) rfl (fun c8 => ?_) (fun c8 => ?_)
  · refine v_iconst 14 hE (v := nI 0) dX3_cheapestFrom_13 (by decide) rfl ?_
    refine v_istore_n 15 hE [_, _, _] dX3_cheapestFrom_14 rfl (by decide) rfl rfl ?_
    refine vV.sub [1, 2, 0] rfl ?_
    have L15 : ∀ (n15 : Nat) (i : Nat), (i ≤ x_m u) → (∀ j, j < i → (decide (x_src u j = v) && decide (wX (x_met u) j + x_cost u (x_tgt u j) = x_cost u v)) = false) → x_m u + 1 ≤ i + n15 → vV K (gX Y) u [(0, .ref (yA Y 1)), (1, .int (nI v)), (2, .int (nI i))] [] 15 := by
      intro n15
      induction n15 with
      | zero => intro i hi hno hfu15; exact absurd hfu15 (by omega)
      | succ n15 ih15 =>
        intro i hi hno hfu15
        refine v_iload_n 16 hE dX3_cheapestFrom_15 rfl rfl ?_
        refine v_aload_n 17 hE dX3_cheapestFrom_16 rfl rfl ?_
        refine gX_linkCount 20 hE f_0 f_3 dX3_cheapestFrom_17 rfl ?_
        refine v_ic_geN 23 hE 55 dX3_cheapestFrom_20 (by decide) (by omega) (by omega) rfl (fun c20 => ?_) (fun c20 => ?_)
        · refine v_iconst 56 hE (v := -1) dX3_cheapestFrom_55 (by decide) rfl ?_
          exact (hret _ _ dX3_cheapestFrom_56).cast rfl (rI (by rw [nxtX, if_neg (by omega), fstN_none.mpr (fun j hj => hno j (by omega))]; rfl))
        · refine v_aload_n 24 hE dX3_cheapestFrom_23 rfl rfl ?_
          refine gX_sources 27 hE f_0 f_4 dX3_cheapestFrom_24 rfl ?_
          refine v_iload_n 28 hE dX3_cheapestFrom_27 rfl rfl ?_
          refine lX_src 29 hE (by omega) dX3_cheapestFrom_28 rfl ?_
          refine v_iload_n 30 hE dX3_cheapestFrom_29 rfl rfl ?_
          have := hsrc i
          refine v_ic_neN 33 hE 49 dX3_cheapestFrom_30 (by decide) (by omega) (by omega) rfl (fun c30 => ?_) (fun c30 => ?_)
          · refine v_iincN 52 hE [_, _, _] dX3_cheapestFrom_49 rfl (by decide) rfl rfl ?_
            refine v_goto hE 15 dX3_cheapestFrom_52 (by decide) ?_
            refine vV.sub [1, 2, 0] rfl ?_
            exact ih15 _ (by omega) (by intro j hj; by_cases e : j = i; (subst e; simp [wX, c20, c30]); exact hno j (by omega)) (by omega)
          · refine v_aload_n 34 hE dX3_cheapestFrom_33 rfl rfl ?_
            refine v_iload_n 35 hE dX3_cheapestFrom_34 rfl rfl ?_
            refine v_ciE 38 hE (v_runV 1 hE (vSub.self hE) (kX3_costOver _ Y _ _ hok (by omega)) gX3_cheapestFrom_X3_costOver rfl (by decide +kernel) rfl (q0 := 1) rfl rfl ⟨rfl, rfl, by decide, by decide⟩ rfl (Nat.le_of_ble_eq_true rfl) dX3_cheapestFrom_35) rfl ?_
            refine v_aload_n 39 hE dX3_cheapestFrom_38 rfl rfl ?_
            refine gX_costs 42 hE f_0 f_1 dX3_cheapestFrom_39 rfl ?_
            refine v_iload_n 43 hE dX3_cheapestFrom_42 rfl rfl ?_
            refine lX_cost 44 hE (by omega) dX3_cheapestFrom_43 rfl ?_
            have := hc v
            have := hc (x_tgt u i)
            have := hmet i
            refine v_ic_neN 47 hE 49 dX3_cheapestFrom_44 (by decide) (by omega) (by omega) rfl (fun c44 => ?_) (fun c44 => ?_)
            · refine v_iincN 52 hE [_, _, _] dX3_cheapestFrom_49 rfl (by decide) rfl rfl ?_
              refine v_goto hE 15 dX3_cheapestFrom_52 (by decide) ?_
              refine vV.sub [1, 2, 0] rfl ?_
              exact ih15 _ (by omega) (by intro j hj; by_cases e : j = i; (subst e; simp [wX, c20, c30, c44]); exact hno j (by omega)) (by omega)
            · refine v_iload_n 48 hE dX3_cheapestFrom_47 rfl rfl ?_
              exact (hret _ _ dX3_cheapestFrom_48).cast rfl (rI (by rw [nxtX, if_neg (by omega), fstN_some.mpr ⟨by omega, by simp [wX, c30, c44], hno⟩]; rfl))
    exact L15 (x_m u + 1) _ (by omega) (by intro j hj; omega) (by omega)
  · refine v_iconst 12 hE (v := -1) dX3_cheapestFrom_11 (by decide) rfl ?_
    exact (hret _ _ dX3_cheapestFrom_12).cast rfl (rI (by rw [nxtX, if_pos c8]; rfl))
set_option maxRecDepth 100000 in
set_option maxHeartbeats 4000000 in
theorem kX3_findRoute (l : Launch) (Y : yG) (u : XS) (s t : Nat) (hok : okN u) (hs : s < 5) (ht : t < 5) (hc : ∀ q, x_cost u q ≤ 1000000) : mV l (gX Y) yX3_findRoute wsX3_findRoute ({ frames := 2, cells := 0, slots := 0, locals := 43 }) [.ref (yA Y 1), .int (nI s), .int (nI t)] u (xR u (x_cost u, rt1 (nxtX (x_cost u) (wX (x_met u)) (x_src u) (x_tgt u) (x_m u)) (x_tgt u) t s (x_len u, x_lnk u))) := by
  obtain ⟨hn, hm, hsrc, htgt, hmet, hlen, hlnk⟩ := id hok
  obtain ⟨R, hR⟩ : ∃ R, (walkN (nxtX (x_cost u) (wX (x_met u)) (x_src u) (x_tgt u) (x_m u)) (x_tgt u) t 4 s 0 (x_lnk u (s * 5 + t))) = R := ⟨_, rfl⟩
  show mV l (gX Y) _ _ _ _ u (xR u (x_cost u, (va_up (x_len u) (s * 5 + t) (if (walkN (nxtX (x_cost u) (wX (x_met u)) (x_src u) (x_tgt u) (x_m u)) (x_tgt u) t 4 s 0 (x_lnk u (s * 5 + t))).1 = t then (walkN (nxtX (x_cost u) (wX (x_met u)) (x_src u) (x_tgt u) (x_m u)) (x_tgt u) t 4 s 0 (x_lnk u (s * 5 + t))).2.1 else 0), va_up (x_lnk u) (s * 5 + t) (walkN (nxtX (x_cost u) (wX (x_met u)) (x_src u) (x_tgt u) (x_m u)) (x_tgt u) t 4 s 0 (x_lnk u (s * 5 + t))).2.2)))
  rw [hR]
  refine mV_of (cc := cX3_findRoute) (nL := 7) (own := RX3) (by decide) rfl rfl (fun v => cX_geo Y _ v) (Nat.le_of_ble_eq_true rfl) ?_
  intro K hKl hE hret
  have f_0 : Cond.initialized (yX4_slotOf).cls ∈ wsX3_findRoute := by decide +kernel
  have f_1 : Cond.static yX4_slotOf ∈ wsX3_findRoute := by decide +kernel
  have f_2 : ∀ w ∈ u_ws RX3 TX3 8, w ∈ wsX3_findRoute := by decide +kernel
  have f_3 : Cond.fieldLink RX3 21 "TrafficMatrix$Network" "routeLengths" "[I" ∈ wsX3_findRoute := by decide +kernel
  have f_4 : Cond.fieldLink RX3 26 "TrafficMatrix$Network" "routeLinks" "[[I" ∈ wsX3_findRoute := by decide +kernel
  have f_5 : Cond.fieldLink RX3 15 "TrafficMatrix$Network" "targets" "[I" ∈ wsX3_findRoute := by decide +kernel
  show vV K (gX Y) u [(0, .ref (yA Y 1)), (1, .int (nI s)), (2, .int (nI t))] [] 0
  refine v_iload_n 1 hE dX3_findRoute_0 rfl rfl ?_
  refine v_iload_n 2 hE dX3_findRoute_1 rfl rfl ?_
  refine v_ciE 5 hE (v_runSN 2 hE (vSub.self hE) (host := "TrafficMatrix") (kX4_slotOf _ Y _ _ _) gX3_findRoute_X4_slotOf_n71 (List.mem_of_getElem? (i := 0) rfl) f_0 f_1 rfl (by decide +kernel) rfl ⟨rfl, rfl, by decide, by decide⟩ rfl (Nat.le_of_ble_eq_true rfl) dX3_findRoute_2) rfl ?_
  refine v_istore_n 6 hE [_, _, _, _] dX3_findRoute_5 rfl (by decide) rfl rfl ?_
  refine v_iconst 7 hE (v := nI 0) dX3_findRoute_6 (by decide) rfl ?_
  refine v_istore 9 hE [_, _, _, _, _] dX3_findRoute_7 (by decide) rfl rfl ?_
  refine v_iload_n 10 hE dX3_findRoute_9 rfl rfl ?_
  refine v_istore 12 hE [_, _, _, _, _, _] dX3_findRoute_10 (by decide) rfl rfl ?_
  refine vV.sub [3, 4, 5, 2, 1, 0] rfl ?_
  have L12 : ∀ (n12 len v : Nat) (row : Nat → Nat), len ≤ 4 → v < 5 → walkN (nxtX (x_cost u) (wX (x_met u)) (x_src u) (x_tgt u) (x_m u)) (x_tgt u) t (4 - len) v len row = R → (∀ j, row j < 12) → 5 ≤ len + n12 → vV K (gX Y) (xs_lnk u (va_up (x_lnk u) (s * 5 + t) row)) [(0, .ref (yA Y 1)), (1, .int (nI s)), (2, .int (nI t)), (3, .int (nI (s * 5 + t))), (4, .int (nI len)), (5, .int (nI v))] [] 12 := by
    intro n12
    induction n12 with
    | zero => intro len v row h1 h2 h3 h4 h5; exact absurd h5 (by omega)
    | succ n12 ih12 =>
      intro len v row hl hv hF hrow hfu
      refine v_iload 14 hE dX3_findRoute_12 rfl rfl ?_
      refine v_iload_n 15 hE dX3_findRoute_14 rfl rfl ?_
      refine v_ic_eqN 18 hE 67 dX3_findRoute_15 (by decide) (by omega) (by omega) rfl (fun c15 => ?_) (fun c15 => ?_)
      · have hz : R = (v, len, row) := by first | (rw [← hF, walkN_t c15]; done) | (rw [← hF, show 4 - len = 0 by omega]; rfl) | (rw [← hF, walkN_none hq]; done)
        subst hz
        refine v_aload_n 68 hE dX3_findRoute_67 rfl rfl ?_
        refine gX_routeLengths 71 hE f_2 f_3 dX3_findRoute_68 rfl ?_
        refine v_iload_n 72 hE dX3_findRoute_71 rfl rfl ?_
        refine v_iload 74 hE dX3_findRoute_72 rfl rfl ?_
        refine v_iload_n 75 hE dX3_findRoute_74 rfl rfl ?_
        refine v_ic_neN 78 hE 83 dX3_findRoute_75 (by decide) (by omega) (by omega) rfl (fun c75 => ?_) (fun c75 => ?_)
        · refine v_iconst 84 hE (v := nI 0) dX3_findRoute_83 (by decide) rfl ?_
          refine sX_len 85 hE (by omega) dX3_findRoute_84 rfl ?_
          exact (hret _ _ dX3_findRoute_85).cast (by first | (rw [if_pos c75]; done) | (rw [if_neg c75]; done)) rfl
        · refine v_iload 80 hE dX3_findRoute_78 rfl rfl ?_
          refine v_goto hE 84 dX3_findRoute_80 (by decide) ?_
          refine sX_len 85 hE (by omega) dX3_findRoute_84 rfl ?_
          exact (hret _ _ dX3_findRoute_85).cast (by first | (rw [if_pos c75]; done) | (rw [if_neg c75]; done)) rfl
      · refine v_iload 20 hE dX3_findRoute_18 rfl rfl ?_
        refine v_iconst 21 hE (v := nI 4) dX3_findRoute_20 (by decide) rfl ?_
        refine v_ic_geN 24 hE 67 dX3_findRoute_21 (by decide) (by omega) (by omega) rfl (fun c21 => ?_) (fun c21 => ?_)
        · have hz : R = (v, len, row) := by first | (rw [← hF, walkN_t c15]; done) | (rw [← hF, show 4 - len = 0 by omega]; rfl) | (rw [← hF, walkN_none hq]; done)
          subst hz
          refine v_aload_n 68 hE dX3_findRoute_67 rfl rfl ?_
          refine gX_routeLengths 71 hE f_2 f_3 dX3_findRoute_68 rfl ?_
          refine v_iload_n 72 hE dX3_findRoute_71 rfl rfl ?_
          refine v_iload 74 hE dX3_findRoute_72 rfl rfl ?_
          refine v_iload_n 75 hE dX3_findRoute_74 rfl rfl ?_
          refine v_ic_neN 78 hE 83 dX3_findRoute_75 (by decide) (by omega) (by omega) rfl (fun c75 => ?_) (fun c75 => ?_)
          · refine v_iconst 84 hE (v := nI 0) dX3_findRoute_83 (by decide) rfl ?_
            refine sX_len 85 hE (by omega) dX3_findRoute_84 rfl ?_
            exact (hret _ _ dX3_findRoute_85).cast (by first | (rw [if_pos c75]; done) | (rw [if_neg c75]; done)) rfl
          · refine v_iload 80 hE dX3_findRoute_78 rfl rfl ?_
            refine v_goto hE 84 dX3_findRoute_80 (by decide) ?_
            refine sX_len 85 hE (by omega) dX3_findRoute_84 rfl ?_
            exact (hret _ _ dX3_findRoute_85).cast (by first | (rw [if_pos c75]; done) | (rw [if_neg c75]; done)) rfl
        · refine v_aload_n 25 hE dX3_findRoute_24 rfl rfl ?_
          refine v_iload 27 hE dX3_findRoute_25 rfl rfl ?_
          refine v_ciE 30 hE (v_runV 1 hE (vSub.self hE) (kX3_cheapestFrom _ Y _ _ (okN_R hok (z := (x_cost u, x_len u, va_up (x_lnk u) (s * 5 + t) row)) ⟨hlen, fun q j => by show (va_up (x_lnk u) (s * 5 + t) row : Nat → Nat → Nat) q j < 12; unfold va_up; split; exact hrow j; exact hlnk q j⟩) (by omega) hc) gX3_findRoute_X3_cheapestFrom rfl (by decide +kernel) rfl (q0 := 1) rfl rfl ⟨rfl, rfl, by decide, by decide⟩ rfl (Nat.le_of_ble_eq_true rfl) dX3_findRoute_27) rfl ?_
          show vV K (gX Y) _ _ (.int (oI (-1) (nxtX (x_cost u) (wX (x_met u)) (x_src u) (x_tgt u) (x_m u) _)) :: _) _
          refine v_istore 32 hE [_, _, _, _, _, _, _] dX3_findRoute_30 (by decide) rfl rfl ?_
          refine v_iload 34 hE dX3_findRoute_32 rfl rfl ?_
          refine v_iconst 35 hE (v := -1) dX3_findRoute_34 (by decide) rfl ?_
          refine v_ic_ne 38 hE 41 dX3_findRoute_35 (by decide) rfl (fun c35 => ?_) (fun c35 => ?_)
          · obtain ⟨q, hq⟩ := oI_some c35
            have hq12 := nxtX_lt hq
            rw [hq]
            show vV K (gX Y) _ [(6, .int (nI q)), _, _, _, _, _, _] _ _
            refine v_aload_n 42 hE dX3_findRoute_41 rfl rfl ?_
            refine gX_routeLinks 45 hE f_2 f_4 dX3_findRoute_42 rfl ?_
            refine v_iload_n 46 hE dX3_findRoute_45 rfl rfl ?_
            refine rX_lnk 47 hE (by omega) dX3_findRoute_46 rfl ?_
            refine v_iload 49 hE dX3_findRoute_47 rfl rfl ?_
            refine v_iload 51 hE dX3_findRoute_49 rfl rfl ?_
            refine sX_lnk 52 hE (by omega) (by omega) dX3_findRoute_51 rfl ?_
            refine v_iincN 55 hE [_, _, _, _, _, _, _] dX3_findRoute_52 rfl (by decide) rfl rfl ?_
            refine v_aload_n 56 hE dX3_findRoute_55 rfl rfl ?_
            refine gX_targets 59 hE f_2 f_5 dX3_findRoute_56 rfl ?_
            refine v_iload 61 hE dX3_findRoute_59 rfl rfl ?_
            refine lX_tgt 62 hE (by omega) dX3_findRoute_61 rfl ?_
            show vV K (gX Y) _ _ (.int (nI ((x_tgt u) _)) :: _) _
            refine v_istore 64 hE [_, _, _, _, _, _, _] dX3_findRoute_62 (by decide) rfl rfl ?_
            refine v_goto hE 12 dX3_findRoute_64 (by decide) ?_
            refine vV.sub [3, 4, 5, 6, 1, 0] rfl ?_
            exact (ih12 _ _ (va_up row len q) (by omega) (htgt _) (by rw [← hF, show 4 - len = (4 - (len + 1)) + 1 by omega, walkN_some hq c15]) (fun j => by unfold va_up; split; omega; exact hrow j) (by omega)).cast (congrArg (xs_lnk u) (up_2 (x_lnk u) (s * 5 + t) row len q)) rfl
          · have hq := oI_none (fun k hk => Nat.lt_of_lt_of_le (nxtX_lt hk) (Nat.le_trans hm (by decide))) c35
            refine v_goto hE 67 dX3_findRoute_38 (by decide) ?_
            have hz : R = (v, len, row) := by first | (rw [← hF, walkN_t c15]; done) | (rw [← hF, show 4 - len = 0 by omega]; rfl) | (rw [← hF, walkN_none hq]; done)
            subst hz
            refine v_aload_n 68 hE dX3_findRoute_67 rfl rfl ?_
            refine gX_routeLengths 71 hE f_2 f_3 dX3_findRoute_68 rfl ?_
            refine v_iload_n 72 hE dX3_findRoute_71 rfl rfl ?_
            refine v_iload 74 hE dX3_findRoute_72 rfl rfl ?_
            refine v_iload_n 75 hE dX3_findRoute_74 rfl rfl ?_
            refine v_ic_neN 78 hE 83 dX3_findRoute_75 (by decide) (by omega) (by omega) rfl (fun c75 => ?_) (fun c75 => ?_)
            · refine v_iconst 84 hE (v := nI 0) dX3_findRoute_83 (by decide) rfl ?_
              refine sX_len 85 hE (by omega) dX3_findRoute_84 rfl ?_
              exact (hret _ _ dX3_findRoute_85).cast (by first | (rw [if_pos c75]; done) | (rw [if_neg c75]; done)) rfl
            · refine v_iload 80 hE dX3_findRoute_78 rfl rfl ?_
              refine v_goto hE 84 dX3_findRoute_80 (by decide) ?_
              refine sX_len 85 hE (by omega) dX3_findRoute_84 rfl ?_
              exact (hret _ _ dX3_findRoute_85).cast (by first | (rw [if_pos c75]; done) | (rw [if_neg c75]; done)) rfl
  exact (L12 5 _ _ _ (by omega) (by omega) hR (hlnk _) (by omega)).cast (congrArg (xs_lnk u) (up_id (x_lnk u) (s * 5 + t)).symm) rfl
set_option maxRecDepth 100000 in
set_option maxHeartbeats 4000000 in
theorem kX3_findRoutes (l : Launch) (Y : yG) (u : XS)  (hok : okN u) : mV l (gX Y) yX3_findRoutes wsX3_findRoutes ({ frames := 3, cells := 0, slots := 0, locals := 69 }) [.ref (yA Y 1)] u (xRoutes u) := by
  obtain ⟨hn, hm, hsrc, htgt, hmet, hlen, hlnk⟩ := id hok
  refine mV_of (cc := cX3_findRoutes) (nL := 3) (own := RX3) (by decide) rfl rfl (fun v => cX_geo Y _ v) (Nat.le_of_ble_eq_true rfl) ?_
  intro K hKl hE hret
  have f_0 : ∀ w ∈ u_ws RX3 TX3 8, w ∈ wsX3_findRoutes := by decide +kernel
  have f_1 : Cond.fieldLink RX3 32 "TrafficMatrix$Network" "nodeCount" "I" ∈ wsX3_findRoutes := by decide +kernel
  show vV K (gX Y) u [(0, .ref (yA Y 1))] [] 0
  refine v_iconst 1 hE (v := nI 0) dX3_findRoutes_0 (by decide) rfl ?_
  refine v_istore_n 2 hE [_, _] dX3_findRoutes_1 rfl (by decide) rfl rfl ?_
  refine vV.sub [1, 0] rfl ?_
  have L2 : ∀ (n2 : Nat) (t : Nat) (z : (Nat → Nat) × rtL), (t ≤ x_n u) → (z = rtT (wX (x_met u)) (x_src u) (x_tgt u) (x_m u) (x_n u) t (x_cost u, x_len u, x_lnk u)) → x_n u + 1 ≤ t + n2 → vV K (gX Y) (xR u z) [(0, .ref (yA Y 1)), (1, .int (nI t))] [] 2 := by
    intro n2
    induction n2 with
    | zero => intro t z ht hz hfu2; exact absurd hfu2 (by omega)
    | succ n2 ih2 =>
      intro t z ht hz hfu2
      refine v_iload_n 3 hE dX3_findRoutes_2 rfl rfl ?_
      refine v_aload_n 4 hE dX3_findRoutes_3 rfl rfl ?_
      refine gX_nodeCount 7 hE f_0 f_1 dX3_findRoutes_4 rfl ?_
      show vV K (gX Y) _ _ (.int (nI (x_n u)) :: _) _
      refine v_ic_geN 10 hE 43 dX3_findRoutes_7 (by decide) (by omega) (by omega) rfl (fun c7 => ?_) (fun c7 => ?_)
      · exact (hret _ _ dX3_findRoutes_43).cast (by rw [hz, show t = x_n u by omega]) rfl
      · refine v_aload_n 11 hE dX3_findRoutes_10 rfl rfl ?_
        refine v_iload_n 12 hE dX3_findRoutes_11 rfl rfl ?_
        refine v_cvE 15 hE (v_runV 1 hE (vSub.self hE) (kX3_findCostsTo _ Y (xR u z) _ (okN_R hok (by rw [hz]; exact rtT_ok hm ⟨hlen, hlnk⟩ t)) (by omega)) gX3_findRoutes_X3_findCostsTo rfl (by decide +kernel) rfl (q0 := 1) rfl rfl ⟨rfl, rfl, by decide, by decide⟩ rfl (Nat.le_of_ble_eq_true rfl) dX3_findRoutes_12) rfl ?_
        refine v_iconst 16 hE (v := nI 0) dX3_findRoutes_15 (by decide) rfl ?_
        refine v_istore_n 17 hE [_, _, _] dX3_findRoutes_16 rfl (by decide) rfl rfl ?_
        refine vV.sub [1, 2, 0] rfl ?_
        have L17 : ∀ (n17 : Nat) (s : Nat) (y : rtL), (s ≤ x_n u) → (y = rtN (nxtX (costsTo (wX (x_met u)) (x_src u) (x_tgt u) (x_m u) 4 t) (wX (x_met u)) (x_src u) (x_tgt u) (x_m u)) (x_tgt u) t s z.2) → x_n u + 1 ≤ s + n17 → vV K (gX Y) (xR u (costsTo (wX (x_met u)) (x_src u) (x_tgt u) (x_m u) 4 t, y)) [(0, .ref (yA Y 1)), (1, .int (nI t)), (2, .int (nI s))] [] 17 := by
          intro n17
          induction n17 with
          | zero => intro s y hs hy hfu17; exact absurd hfu17 (by omega)
          | succ n17 ih17 =>
            intro s y hs hy hfu17
            refine v_iload_n 18 hE dX3_findRoutes_17 rfl rfl ?_
            refine v_aload_n 19 hE dX3_findRoutes_18 rfl rfl ?_
            refine gX_nodeCount 22 hE f_0 f_1 dX3_findRoutes_19 rfl ?_
            show vV K (gX Y) _ _ (.int (nI (x_n u)) :: _) _
            refine v_ic_geN 25 hE 37 dX3_findRoutes_22 (by decide) (by omega) (by omega) rfl (fun c22 => ?_) (fun c22 => ?_)
            · refine v_iincN 40 hE [_, _, _] dX3_findRoutes_37 rfl (by decide) rfl rfl ?_
              refine v_goto hE 2 dX3_findRoutes_40 (by decide) ?_
              refine vV.sub [1, 0] rfl ?_
              exact ih2 _ _ (by omega) (by rw [hy, hz, show s = x_n u by omega]; rfl) (by omega)
            · refine v_aload_n 26 hE dX3_findRoutes_25 rfl rfl ?_
              refine v_iload_n 27 hE dX3_findRoutes_26 rfl rfl ?_
              refine v_iload_n 28 hE dX3_findRoutes_27 rfl rfl ?_
              refine v_cvE 31 hE (v_runV 2 hE (vSub.self hE) (kX3_findRoute _ Y (xR u (costsTo (wX (x_met u)) (x_src u) (x_tgt u) (x_m u) 4 t, y)) _ _ (okN_R hok (by rw [hy, hz]; exact rtN_ok (fun v l q => Nat.lt_of_lt_of_le (nxtX_lt q) hm) (rtT_ok hm ⟨hlen, hlnk⟩ t) s)) (by omega) (by omega) (fun q => costsTo_le _ _ _ _ _ _ q)) gX3_findRoutes_X3_findRoute rfl (by decide +kernel) rfl (q0 := 1) rfl rfl ⟨rfl, rfl, by decide, by decide⟩ rfl (Nat.le_of_ble_eq_true rfl) dX3_findRoutes_28) rfl ?_
              refine v_iincN 34 hE [_, _, _] dX3_findRoutes_31 rfl (by decide) rfl rfl ?_
              refine v_goto hE 17 dX3_findRoutes_34 (by decide) ?_
              refine vV.sub [1, 2, 0] rfl ?_
              exact ih17 _ _ (by omega) (by rw [hy]; rfl) (by omega)
        exact L17 (x_n u + 1) _ _ (by omega) rfl (by omega)
  exact L2 (x_n u + 1) 0 (x_cost u, x_len u, x_lnk u) (by omega) rfl (by omega)
set_option maxRecDepth 100000 in
set_option maxHeartbeats 4000000 in
theorem kX3_append (l : Launch) (Y : yG) (u : XS) (s t k : Nat) (hok : okN u) (hs : s < 5) (ht : t < 5) (hk : k ≤ 99) (hm2 : x_m u < 12) : mI l (gX Y) yX3_append wsX3_append ({ frames := 4, cells := 0, slots := 0, locals := 91 }) [.ref (yA Y 1), .int (nI s), .int (nI t), .int (nI k)] u (nI (x_m u)) (xRoutes (xs_m (xs_met (xs_tgt (xs_src u (va_up (x_src u) (x_m u) s)) (va_up (x_tgt u) (x_m u) t)) (va_up (x_met u) (x_m u) k)) (x_m u + 1))) := by
  obtain ⟨hn, hm, hsrc, htgt, hmet, hlen, hlnk⟩ := id hok
  refine mI_of (cc := cX3_append) (nL := 5) (own := RX3) (by decide) rfl rfl (fun v => cX_geo Y _ v) (Nat.le_of_ble_eq_true rfl) ?_
  intro K hKl hE hret
  have f_0 : ∀ w ∈ u_ws RX3 TX3 8, w ∈ wsX3_append := by decide +kernel
  have f_1 : Cond.fieldLink RX3 36 "TrafficMatrix$Network" "linkCount" "I" ∈ wsX3_append := by decide +kernel
  have f_2 : Cond.fieldLink RX3 9 "TrafficMatrix$Network" "sources" "[I" ∈ wsX3_append := by decide +kernel
  have f_3 : Cond.fieldLink RX3 15 "TrafficMatrix$Network" "targets" "[I" ∈ wsX3_append := by decide +kernel
  have f_4 : Cond.fieldLink RX3 18 "TrafficMatrix$Network" "metrics" "[I" ∈ wsX3_append := by decide +kernel
  show vV K (gX Y) u [(0, .ref (yA Y 1)), (1, .int (nI s)), (2, .int (nI t)), (3, .int (nI k))] [] 0
  refine v_aload_n 1 hE dX3_append_0 rfl rfl ?_
  refine gX_linkCount 4 hE f_0 f_1 dX3_append_1 rfl ?_
  refine v_istore 6 hE [_, _, _, _, _] dX3_append_4 (by decide) rfl rfl ?_
  refine v_aload_n 7 hE dX3_append_6 rfl rfl ?_
  refine gX_sources 10 hE f_0 f_2 dX3_append_7 rfl ?_
  refine v_iload 12 hE dX3_append_10 rfl rfl ?_
  refine v_iload_n 13 hE dX3_append_12 rfl rfl ?_
  refine sX_src 14 hE (by omega) dX3_append_13 rfl ?_
  refine v_aload_n 15 hE dX3_append_14 rfl rfl ?_
  refine gX_targets 18 hE f_0 f_3 dX3_append_15 rfl ?_
  refine v_iload 20 hE dX3_append_18 rfl rfl ?_
  refine v_iload_n 21 hE dX3_append_20 rfl rfl ?_
  refine sX_tgt 22 hE (by omega) dX3_append_21 rfl ?_
  refine v_aload_n 23 hE dX3_append_22 rfl rfl ?_
  refine gX_metrics 26 hE f_0 f_4 dX3_append_23 rfl ?_
  refine v_iload 28 hE dX3_append_26 rfl rfl ?_
  refine v_iload_n 29 hE dX3_append_28 rfl rfl ?_
  refine sX_met 30 hE (by omega) dX3_append_29 rfl ?_
  refine v_aload_n 31 hE dX3_append_30 rfl rfl ?_
  refine v_dup 32 hE dX3_append_31 rfl rfl ?_
  refine gX_linkCount 35 hE f_0 f_1 dX3_append_32 rfl ?_
  show vV K (gX Y) _ _ (.int (nI (x_m u)) :: _) _
  refine v_iconst 36 hE (v := nI 1) dX3_append_35 (by decide) rfl ?_
  refine v_iaddN 37 hE dX3_append_36 rfl ?_
  refine pX_linkCount 40 hE f_0 f_1 dX3_append_37 rfl ?_
  refine v_aload_n 41 hE dX3_append_40 rfl rfl ?_
  refine v_cvE 44 hE (v_runV 0 hE (vSub.self hE) (kX3_findRoutes _ Y _ ⟨hn, hm2, fun q => by show va_up (x_src u) _ _ q < 5; unfold va_up; split; omega; exact hsrc q, fun q => by show va_up (x_tgt u) _ _ q < 5; unfold va_up; split; omega; exact htgt q, fun q => by show va_up (x_met u) _ _ q ≤ 99; unfold va_up; split; omega; exact hmet q, hlen, hlnk⟩) gX3_append_X3_findRoutes rfl (by decide +kernel) rfl (q0 := 1) rfl rfl ⟨rfl, rfl, by decide, by decide⟩ rfl (Nat.le_of_ble_eq_true rfl) dX3_append_41) rfl ?_
  refine v_iload 46 hE dX3_append_44 rfl rfl ?_
  exact (hret _ _ dX3_append_46).cast rfl (rI (by simp []))
set_option maxRecDepth 100000 in
set_option maxHeartbeats 4000000 in
theorem kX3_replaceMetric (l : Launch) (Y : yG) (u : XS) (j k : Nat) (hok : okN u) (hj : j < 12) (hk : k ≤ 99) : mI l (gX Y) yX3_replaceMetric wsX3_replaceMetric ({ frames := 4, cells := 0, slots := 0, locals := 91 }) [.ref (yA Y 1), .int (nI j), .int (nI k)] u (nI (x_met u j)) (xRoutes (xs_met u (va_up (x_met u) j k))) := by
  obtain ⟨hn, hm, hsrc, htgt, hmet, hlen, hlnk⟩ := id hok
  refine mI_of (cc := cX3_replaceMetric) (nL := 4) (own := RX3) (by decide) rfl rfl (fun v => cX_geo Y _ v) (Nat.le_of_ble_eq_true rfl) ?_
  intro K hKl hE hret
  have f_0 : ∀ w ∈ u_ws RX3 TX3 8, w ∈ wsX3_replaceMetric := by decide +kernel
  have f_1 : Cond.fieldLink RX3 18 "TrafficMatrix$Network" "metrics" "[I" ∈ wsX3_replaceMetric := by decide +kernel
  show vV K (gX Y) u [(0, .ref (yA Y 1)), (1, .int (nI j)), (2, .int (nI k))] [] 0
  refine v_aload_n 1 hE dX3_replaceMetric_0 rfl rfl ?_
  refine gX_metrics 4 hE f_0 f_1 dX3_replaceMetric_1 rfl ?_
  refine v_iload_n 5 hE dX3_replaceMetric_4 rfl rfl ?_
  refine lX_met 6 hE (by omega) dX3_replaceMetric_5 rfl ?_
  refine v_istore_n 7 hE [_, _, _, _] dX3_replaceMetric_6 rfl (by decide) rfl rfl ?_
  refine v_aload_n 8 hE dX3_replaceMetric_7 rfl rfl ?_
  refine gX_metrics 11 hE f_0 f_1 dX3_replaceMetric_8 rfl ?_
  refine v_iload_n 12 hE dX3_replaceMetric_11 rfl rfl ?_
  refine v_iload_n 13 hE dX3_replaceMetric_12 rfl rfl ?_
  refine sX_met 14 hE (by omega) dX3_replaceMetric_13 rfl ?_
  refine v_aload_n 15 hE dX3_replaceMetric_14 rfl rfl ?_
  refine v_cvE 18 hE (v_runV 0 hE (vSub.self hE) (kX3_findRoutes _ Y _ ⟨hn, hm, hsrc, htgt, fun q => by show va_up (x_met u) _ _ q ≤ 99; unfold va_up; split; omega; exact hmet q, hlen, hlnk⟩) gX3_replaceMetric_X3_findRoutes rfl (by decide +kernel) rfl (q0 := 1) rfl rfl ⟨rfl, rfl, by decide, by decide⟩ rfl (Nat.le_of_ble_eq_true rfl) dX3_replaceMetric_15) rfl ?_
  refine v_iload_n 19 hE dX3_replaceMetric_18 rfl rfl ?_
  exact (hret _ _ dX3_replaceMetric_19).cast rfl (rI (by simp []))
set_option maxRecDepth 100000 in
set_option maxHeartbeats 4000000 in
theorem kX3_startAnew (l : Launch) (Y : yG) (u : XS) (k : Nat)  : mV l (gX Y) yX3_startAnew wsX3_startAnew ({ frames := 1, cells := 0, slots := 0, locals := 23 }) [.ref (yA Y 1), .int (nI k)] u (xs_len (xs_m (xs_n u k) 0) (fun _ => 0)) := by
  refine mV_of (cc := cX3_startAnew) (nL := 2) (own := RX3) (by decide) rfl rfl (fun v => cX_geo Y _ v) (Nat.le_of_ble_eq_true rfl) ?_
  intro K hKl hE hret
  have f_0 : ∀ w ∈ u_ws RX3 TX3 8, w ∈ wsX3_startAnew := by decide +kernel
  have f_1 : Cond.fieldLink RX3 32 "TrafficMatrix$Network" "nodeCount" "I" ∈ wsX3_startAnew := by decide +kernel
  have f_2 : Cond.fieldLink RX3 36 "TrafficMatrix$Network" "linkCount" "I" ∈ wsX3_startAnew := by decide +kernel
  have f_3 : Cond.fieldLink RX3 21 "TrafficMatrix$Network" "routeLengths" "[I" ∈ wsX3_startAnew := by decide +kernel
  show vV K (gX Y) u [(0, .ref (yA Y 1)), (1, .int (nI k))] [] 0
  refine v_aload_n 1 hE dX3_startAnew_0 rfl rfl ?_
  refine v_iload_n 2 hE dX3_startAnew_1 rfl rfl ?_
  refine pX_nodeCount 5 hE f_0 f_1 dX3_startAnew_2 rfl ?_
  refine v_aload_n 6 hE dX3_startAnew_5 rfl rfl ?_
  refine v_iconst 7 hE (v := nI 0) dX3_startAnew_6 (by decide) rfl ?_
  refine pX_linkCount 10 hE f_0 f_2 dX3_startAnew_7 rfl ?_
  refine v_aload_n 11 hE dX3_startAnew_10 rfl rfl ?_
  refine gX_routeLengths 14 hE f_0 f_3 dX3_startAnew_11 rfl ?_
  refine v_iconst 15 hE (v := nI 0) dX3_startAnew_14 (by decide) rfl ?_
  refine fX_len 18 hE gX3_startAnew_J7_fill_53178 ⟨by decide, by decide⟩ (Nat.le_of_ble_eq_true rfl) dX3_startAnew_15 rfl ?_
  exact (hret _ _ dX3_startAnew_18).cast rfl rfl
end
section
/-! TrafficMatrix$Measurements -/
def uPair (pv : Nat → Int32) (s : Nat) : Bool := if pv s = -1 then false else true
def totO (has : Nat → Bool) (dem : Nat → Int32) (i : Nat) : Nat → Int32 := fun v => sumI (fun s => if has s && decide (s / 5 = v) then dem s else 0) i
def totI (has : Nat → Bool) (dem : Nat → Int32) (i : Nat) : Nat → Int32 := fun v => sumI (fun s => if has s && decide (s % 5 = v) then dem s else 0) i
theorem totO_s {has : Nat → Bool} {dem : Nat → Int32} {i : Nat} (h : has i = true) : va_up (totO has dem i) (i / 5) (totO has dem i (i / 5) + dem i) = totO has dem (i + 1) := by
  funext v
  unfold va_up totO
  by_cases e : v = i / 5
  · subst e
    simp [sumI, h]
  · have e2 : ¬ i / 5 = v := fun q => e q.symm
    simp [sumI, h, e, e2]
theorem totO_n {has : Nat → Bool} {dem : Nat → Int32} {i : Nat} (h : has i = false) : totO has dem i = totO has dem (i + 1) := by
  funext v
  simp [totO, sumI, h]
theorem totI_s {has : Nat → Bool} {dem : Nat → Int32} {i : Nat} (h : has i = true) : va_up (totI has dem i) (i % 5) (totI has dem i (i % 5) + dem i) = totI has dem (i + 1) := by
  funext v
  unfold va_up totI
  by_cases e : v = i % 5
  · subst e
    simp [sumI, h]
  · have e2 : ¬ i % 5 = v := fun q => e q.symm
    simp [sumI, h, e, e2]
theorem totI_n {has : Nat → Bool} {dem : Nat → Int32} {i : Nat} (h : has i = false) : totI has dem i = totI has dem (i + 1) := by
  funext v
  simp [totI, sumI, h]
abbrev xMeasure (u : XS) : XS := xs_inn (xs_out (xs_load u (mixN (x_load u) (ldOf (uUses (x_len u) (x_lnk u)) (x_dem u)) (x_m u))) (totO (uHas (x_len u)) (x_dem u) 25)) (totI (uHas (x_len u)) (x_dem u) 25)
set_option maxRecDepth 100000 in
set_option maxHeartbeats 4000000 in
theorem kX2_startAnew (l : Launch) (Y : yG) (u : XS)   : mV l (gX Y) yX2_startAnew wsX2_startAnew ({ frames := 1, cells := 0, slots := 0, locals := 23 }) [.ref (yA Y 3)] u (xs_pv (xs_inn (xs_out (xs_load u (fun _ => 0)) (fun _ => 0)) (fun _ => 0)) (fun _ => -1)) := by
  refine mV_of (cc := cX2_startAnew) (nL := 1) (own := RX2) (by decide) rfl rfl (fun v => cX_geo Y _ v) (Nat.le_of_ble_eq_true rfl) ?_
  intro K hKl hE hret
  have f_0 : ∀ w ∈ u_ws RX2 TX2 4, w ∈ wsX2_startAnew := by decide +kernel
  have f_1 : Cond.fieldLink RX2 9 "TrafficMatrix$Measurements" "loads" "[I" ∈ wsX2_startAnew := by decide +kernel
  have f_2 : Cond.fieldLink RX2 15 "TrafficMatrix$Measurements" "outTotals" "[I" ∈ wsX2_startAnew := by decide +kernel
  have f_3 : Cond.fieldLink RX2 18 "TrafficMatrix$Measurements" "inTotals" "[I" ∈ wsX2_startAnew := by decide +kernel
  have f_4 : Cond.fieldLink RX2 21 "TrafficMatrix$Measurements" "pairValues" "[I" ∈ wsX2_startAnew := by decide +kernel
  show vV K (gX Y) u [(0, .ref (yA Y 3))] [] 0
  refine v_aload_n 1 hE dX2_startAnew_0 rfl rfl ?_
  refine gX_loads 4 hE f_0 f_1 dX2_startAnew_1 rfl ?_
  refine v_iconst 5 hE (v := 0) dX2_startAnew_4 (by decide) rfl ?_
  refine fX_load 8 hE gX2_startAnew_J7_fill_53178 ⟨by decide, by decide⟩ (Nat.le_of_ble_eq_true rfl) dX2_startAnew_5 rfl ?_
  refine v_aload_n 9 hE dX2_startAnew_8 rfl rfl ?_
  refine gX_outTotals 12 hE f_0 f_2 dX2_startAnew_9 rfl ?_
  refine v_iconst 13 hE (v := 0) dX2_startAnew_12 (by decide) rfl ?_
  refine fX_out 16 hE gX2_startAnew_J7_fill_53178 ⟨by decide, by decide⟩ (Nat.le_of_ble_eq_true rfl) dX2_startAnew_13 rfl ?_
  refine v_aload_n 17 hE dX2_startAnew_16 rfl rfl ?_
  refine gX_inTotals 20 hE f_0 f_3 dX2_startAnew_17 rfl ?_
  refine v_iconst 21 hE (v := 0) dX2_startAnew_20 (by decide) rfl ?_
  refine fX_inn 24 hE gX2_startAnew_J7_fill_53178 ⟨by decide, by decide⟩ (Nat.le_of_ble_eq_true rfl) dX2_startAnew_21 rfl ?_
  refine v_aload_n 25 hE dX2_startAnew_24 rfl rfl ?_
  refine gX_pairValues 28 hE f_0 f_4 dX2_startAnew_25 rfl ?_
  refine v_iconst 29 hE (v := -1) dX2_startAnew_28 (by decide) rfl ?_
  refine fX_pv 32 hE gX2_startAnew_J7_fill_53178 ⟨by decide, by decide⟩ (Nat.le_of_ble_eq_true rfl) dX2_startAnew_29 rfl ?_
  exact (hret _ _ dX2_startAnew_32).cast rfl rfl
set_option maxRecDepth 100000 in
set_option maxHeartbeats 4000000 in
theorem kX2_hasPair (l : Launch) (Y : yG) (u : XS) (s : Nat) (hs : s < 25) : mI l (gX Y) yX2_hasPair wsX2_hasPair ({ frames := 0, cells := 0, slots := 0, locals := 0 }) [.ref (yA Y 3), .int (nI s)] u (bI (uPair (x_pv u) s)) u := by
  refine mB_of (cc := cX2_hasPair) (nL := 2) (own := RX2) (by decide) rfl rfl (fun v => cX_geo Y _ v) (Nat.le_of_ble_eq_true rfl) ?_
  intro K hKl hE hret
  have f_0 : ∀ w ∈ u_ws RX2 TX2 4, w ∈ wsX2_hasPair := by decide +kernel
  have f_1 : Cond.fieldLink RX2 21 "TrafficMatrix$Measurements" "pairValues" "[I" ∈ wsX2_hasPair := by decide +kernel
  show vV K (gX Y) u [(0, .ref (yA Y 3)), (1, .int (nI s))] [] 0
  refine v_aload_n 1 hE dX2_hasPair_0 rfl rfl ?_
  refine gX_pairValues 4 hE f_0 f_1 dX2_hasPair_1 rfl ?_
  refine v_iload_n 5 hE dX2_hasPair_4 rfl rfl ?_
  refine lX_pv 6 hE (by omega) dX2_hasPair_5 rfl ?_
  refine v_iconst 7 hE (v := -1) dX2_hasPair_6 (by decide) rfl ?_
  refine v_ic_eq 10 hE 14 dX2_hasPair_7 (by decide) rfl (fun c7 => ?_) (fun c7 => ?_)
  · refine v_iconst 15 hE (v := nI 0) dX2_hasPair_14 (by decide) rfl ?_
    exact (hret _ _ dX2_hasPair_15).cast rfl (rB0 (by simp [uPair, c7]))
  · refine v_iconst 11 hE (v := nI 1) dX2_hasPair_10 (by decide) rfl ?_
    refine v_goto hE 15 dX2_hasPair_11 (by decide) ?_
    exact (hret _ _ dX2_hasPair_15).cast rfl (rB1 (by simp [uPair, c7]))
set_option maxRecDepth 100000 in
set_option maxHeartbeats 4000000 in
theorem kX2_take (l : Launch) (Y : yG) (u : XS)  (hok : okN u) : mV l (gX Y) yX2_take wsX2_take ({ frames := 2, cells := 0, slots := 0, locals := 47 }) [.ref (yA Y 3), .ref (yA Y 1), .ref (yA Y 2)] u (xMeasure u) := by
  obtain ⟨hn, hm, hsrc, htgt, hmet, hlen, hlnk⟩ := id hok
  refine mV_of (cc := cX2_take) (nL := 4) (own := RX2) (by decide) rfl rfl (fun v => cX_geo Y _ v) (Nat.le_of_ble_eq_true rfl) ?_
  intro K hKl hE hret
  have f_0 : ∀ w ∈ u_ws RX3 TX3 8, w ∈ wsX2_take := by decide +kernel
  have f_1 : Cond.fieldLink RX2 30 "TrafficMatrix$Network" "linkCount" "I" ∈ wsX2_take := by decide +kernel
  have f_2 : ∀ w ∈ u_ws RX2 TX2 4, w ∈ wsX2_take := by decide +kernel
  have f_3 : Cond.fieldLink RX2 15 "TrafficMatrix$Measurements" "outTotals" "[I" ∈ wsX2_take := by decide +kernel
  have f_4 : Cond.fieldLink RX2 18 "TrafficMatrix$Measurements" "inTotals" "[I" ∈ wsX2_take := by decide +kernel
  have f_5 : Cond.fieldLink RX2 9 "TrafficMatrix$Measurements" "loads" "[I" ∈ wsX2_take := by decide +kernel
  show vV K (gX Y) u [(0, .ref (yA Y 3)), (1, .ref (yA Y 1)), (2, .ref (yA Y 2))] [] 0
  refine v_iconst 1 hE (v := nI 0) dX2_take_0 (by decide) rfl ?_
  refine v_istore_n 2 hE [_, _, _, _] dX2_take_1 rfl (by decide) rfl rfl ?_
  refine vV.sub [1, 2, 3, 0] rfl ?_
  have L2 : ∀ (n2 : Nat) (i : Nat) (f : Nat → Int32), (i ≤ x_m u) → (f = mixN (x_load u) (ldOf (uUses (x_len u) (x_lnk u)) (x_dem u)) i) → x_m u + 1 ≤ i + n2 → vV K (gX Y) (xs_load u f) [(0, .ref (yA Y 3)), (1, .ref (yA Y 1)), (2, .ref (yA Y 2)), (3, .int (nI i))] [] 2 := by
    intro n2
    induction n2 with
    | zero => intro i f hi hf hfu2; exact absurd hfu2 (by omega)
    | succ n2 ih2 =>
      intro i f hi hf hfu2
      refine v_iload_n 3 hE dX2_take_2 rfl rfl ?_
      refine v_aload_n 4 hE dX2_take_3 rfl rfl ?_
      refine gX_linkCount 7 hE f_0 f_1 dX2_take_4 rfl ?_
      show vV K (gX Y) _ _ (.int (nI (x_m u)) :: _) _
      refine v_ic_geN 10 hE 28 dX2_take_7 (by decide) (by omega) (by omega) rfl (fun c7 => ?_) (fun c7 => ?_)
      · refine v_aload_n 29 hE dX2_take_28 rfl rfl ?_
        refine gX_outTotals 32 hE f_2 f_3 dX2_take_29 rfl ?_
        refine v_iconst 33 hE (v := 0) dX2_take_32 (by decide) rfl ?_
        refine fX_out 36 hE gX2_take_J7_fill_53178 ⟨by decide, by decide⟩ (Nat.le_of_ble_eq_true rfl) dX2_take_33 rfl ?_
        refine v_aload_n 37 hE dX2_take_36 rfl rfl ?_
        refine gX_inTotals 40 hE f_2 f_4 dX2_take_37 rfl ?_
        refine v_iconst 41 hE (v := 0) dX2_take_40 (by decide) rfl ?_
        refine fX_inn 44 hE gX2_take_J7_fill_53178 ⟨by decide, by decide⟩ (Nat.le_of_ble_eq_true rfl) dX2_take_41 rfl ?_
        refine v_iconst 45 hE (v := nI 0) dX2_take_44 (by decide) rfl ?_
        refine v_istore_n 46 hE [_, _, _, _] dX2_take_45 rfl (by decide) rfl rfl ?_
        refine vV.sub [1, 2, 3, 0] rfl ?_
        have L46 : ∀ (n46 : Nat) (j : Nat) (o : Nat → Int32) (p : Nat → Int32), (j ≤ 25) → (o = totO (uHas (x_len u)) (x_dem u) j) → (p = totI (uHas (x_len u)) (x_dem u) j) → 25 + 1 ≤ j + n46 → vV K (gX Y) (xs_inn (xs_out (xs_load u f) o) p) [(0, .ref (yA Y 3)), (1, .ref (yA Y 1)), (2, .ref (yA Y 2)), (3, .int (nI j))] [] 46 := by
          intro n46
          induction n46 with
          | zero => intro j o p hj ho hp hfu46; exact absurd hfu46 (by omega)
          | succ n46 ih46 =>
            intro j o p hj ho hp hfu46
            refine v_iload_n 47 hE dX2_take_46 rfl rfl ?_
            refine v_bipush 49 hE (v := nI 25) dX2_take_47 (by decide) rfl ?_
            refine v_ic_geN 52 hE 94 dX2_take_49 (by decide) (by omega) (by omega) rfl (fun c49 => ?_) (fun c49 => ?_)
            · exact (hret _ _ dX2_take_94).cast (by rw [hf, ho, hp, show i = x_m u by omega, show j = 25 by omega]) rfl
            · refine v_aload_n 53 hE dX2_take_52 rfl rfl ?_
              refine v_iload_n 54 hE dX2_take_53 rfl rfl ?_
              refine v_ciE 57 hE (v_runV 1 hE (vSub.self hE) (kX3_hasRoute _ Y _ _ hok (by omega)) gX2_take_X3_hasRoute rfl (by decide +kernel) rfl (q0 := 1) rfl rfl ⟨rfl, rfl, by decide, by decide⟩ rfl (Nat.le_of_ble_eq_true rfl) dX2_take_54) rfl ?_
              show vV K (gX Y) _ _ (.int (bI (uHas (x_len u) _)) :: _) _
              refine v_if_eqB 60 hE 88 dX2_take_57 (by decide) rfl (fun c57 => ?_) (fun c57 => ?_)
              · refine v_iincN 91 hE [_, _, _, _] dX2_take_88 rfl (by decide) rfl rfl ?_
                refine v_goto hE 46 dX2_take_91 (by decide) ?_
                refine vV.sub [1, 2, 3, 0] rfl ?_
                exact ih46 _ _ _ (by omega) (by rw [ho]; first | exact totO_s c57 | exact totO_n c57) (by rw [hp]; first | exact totI_s c57 | exact totI_n c57) (by omega)
              · refine v_aload_n 61 hE dX2_take_60 rfl rfl ?_
                refine gX_outTotals 64 hE f_2 f_3 dX2_take_61 rfl ?_
                refine v_iload_n 65 hE dX2_take_64 rfl rfl ?_
                refine v_iconst 66 hE (v := nI 5) dX2_take_65 (by decide) rfl ?_
                refine v_idivN 67 hE dX2_take_66 (by omega) (by omega) (by omega) rfl ?_
                refine v_dup2 68 hE dX2_take_67 rfl rfl rfl ?_
                refine lX_out 69 hE (by omega) dX2_take_68 rfl ?_
                show vV K (gX Y) _ _ (.int ((o) _) :: _) _
                refine v_aload_n 70 hE dX2_take_69 rfl rfl ?_
                refine v_iload_n 71 hE dX2_take_70 rfl rfl ?_
                refine lX_dem 72 hE (by omega) dX2_take_71 rfl ?_
                show vV K (gX Y) _ _ (.int ((x_dem u) _) :: _) _
                refine v_iadd 73 hE dX2_take_72 rfl ?_
                refine sX_out 74 hE (by omega) dX2_take_73 rfl ?_
                refine v_aload_n 75 hE dX2_take_74 rfl rfl ?_
                refine gX_inTotals 78 hE f_2 f_4 dX2_take_75 rfl ?_
                refine v_iload_n 79 hE dX2_take_78 rfl rfl ?_
                refine v_iconst 80 hE (v := nI 5) dX2_take_79 (by decide) rfl ?_
                refine v_iremN 81 hE dX2_take_80 (by omega) (by omega) (by omega) rfl ?_
                refine v_dup2 82 hE dX2_take_81 rfl rfl rfl ?_
                refine lX_inn 83 hE (by omega) dX2_take_82 rfl ?_
                show vV K (gX Y) _ _ (.int ((p) _) :: _) _
                refine v_aload_n 84 hE dX2_take_83 rfl rfl ?_
                refine v_iload_n 85 hE dX2_take_84 rfl rfl ?_
                refine lX_dem 86 hE (by omega) dX2_take_85 rfl ?_
                show vV K (gX Y) _ _ (.int ((x_dem u) _) :: _) _
                refine v_iadd 87 hE dX2_take_86 rfl ?_
                refine sX_inn 88 hE (by omega) dX2_take_87 rfl ?_
                refine v_iincN 91 hE [_, _, _, _] dX2_take_88 rfl (by decide) rfl rfl ?_
                refine v_goto hE 46 dX2_take_91 (by decide) ?_
                refine vV.sub [1, 2, 3, 0] rfl ?_
                exact ih46 _ _ _ (by omega) (by rw [ho]; first | exact totO_s c57 | exact totO_n c57) (by rw [hp]; first | exact totI_s c57 | exact totI_n c57) (by omega)
        exact L46 (25 + 1) _ _ _ (by omega) rfl rfl (by omega)
      · refine v_aload_n 11 hE dX2_take_10 rfl rfl ?_
        refine gX_loads 14 hE f_2 f_5 dX2_take_11 rfl ?_
        refine v_iload_n 15 hE dX2_take_14 rfl rfl ?_
        refine v_aload_n 16 hE dX2_take_15 rfl rfl ?_
        refine v_iload_n 17 hE dX2_take_16 rfl rfl ?_
        refine v_aload_n 18 hE dX2_take_17 rfl rfl ?_
        refine v_ciE 21 hE (v_runV 2 hE (vSub.self hE) (kX3_loadOf _ Y _ _ hok (by omega)) gX2_take_X3_loadOf rfl (by decide +kernel) rfl (q0 := 1) rfl rfl ⟨rfl, rfl, by decide, by decide⟩ rfl (Nat.le_of_ble_eq_true rfl) dX2_take_18) rfl ?_
        show vV K (gX Y) _ _ (.int (ldOf (uUses (x_len u) (x_lnk u)) (x_dem u) _) :: _) _
        refine sX_load 22 hE (by omega) dX2_take_21 rfl ?_
        refine v_iincN 25 hE [_, _, _, _] dX2_take_22 rfl (by decide) rfl rfl ?_
        refine v_goto hE 2 dX2_take_25 (by decide) ?_
        refine vV.sub [1, 2, 3, 0] rfl ?_
        exact ih2 _ _ (by omega) (by rw [hf]; exact mixN_s _ _ _) (by omega)
  exact L2 (x_m u + 1) _ (x_load u) (by omega) (mixN_0 _ _).symm (by omega)
set_option maxRecDepth 100000 in
set_option maxHeartbeats 4000000 in
theorem kX2_sumOfOutTotals (l : Launch) (Y : yG) (u : XS)   : mI l (gX Y) yX2_sumOfOutTotals wsX2_sumOfOutTotals ({ frames := 0, cells := 0, slots := 0, locals := 0 }) [.ref (yA Y 3)] u (sumI (x_out u) 5) u := by
  refine mI_of (cc := cX2_sumOfOutTotals) (nL := 3) (own := RX2) (by decide) rfl rfl (fun v => cX_geo Y _ v) (Nat.le_of_ble_eq_true rfl) ?_
  intro K hKl hE hret
  have f_0 : ∀ w ∈ u_ws RX2 TX2 4, w ∈ wsX2_sumOfOutTotals := by decide +kernel
  have f_1 : Cond.fieldLink RX2 15 "TrafficMatrix$Measurements" "outTotals" "[I" ∈ wsX2_sumOfOutTotals := by decide +kernel
  show vV K (gX Y) u [(0, .ref (yA Y 3))] [] 0
  refine v_iconst 1 hE (v := 0) dX2_sumOfOutTotals_0 (by decide) rfl ?_
  refine v_istore_n 2 hE [_, _] dX2_sumOfOutTotals_1 rfl (by decide) rfl rfl ?_
  refine v_iconst 3 hE (v := nI 0) dX2_sumOfOutTotals_2 (by decide) rfl ?_
  refine v_istore_n 4 hE [_, _, _] dX2_sumOfOutTotals_3 rfl (by decide) rfl rfl ?_
  refine vV.sub [2, 1, 0] rfl ?_
  have L4 : ∀ (n4 : Nat) (a : Int32) (i : Nat), (i ≤ 5) → (a = sumI (x_out u) i) → 5 + 1 ≤ i + n4 → vV K (gX Y) u [(0, .ref (yA Y 3)), (1, .int a), (2, .int (nI i))] [] 4 := by
    intro n4
    induction n4 with
    | zero => intro a i hi ha hfu4; exact absurd hfu4 (by omega)
    | succ n4 ih4 =>
      intro a i hi ha hfu4
      refine v_iload_n 5 hE dX2_sumOfOutTotals_4 rfl rfl ?_
      refine v_iconst 6 hE (v := nI 5) dX2_sumOfOutTotals_5 (by decide) rfl ?_
      refine v_ic_geN 9 hE 24 dX2_sumOfOutTotals_6 (by decide) (by omega) (by omega) rfl (fun c6 => ?_) (fun c6 => ?_)
      · refine v_iload_n 25 hE dX2_sumOfOutTotals_24 rfl rfl ?_
        exact (hret _ _ dX2_sumOfOutTotals_25).cast rfl (rI (by rw [ha, show i = 5 by omega]))
      · refine v_iload_n 10 hE dX2_sumOfOutTotals_9 rfl rfl ?_
        refine v_aload_n 11 hE dX2_sumOfOutTotals_10 rfl rfl ?_
        refine gX_outTotals 14 hE f_0 f_1 dX2_sumOfOutTotals_11 rfl ?_
        refine v_iload_n 15 hE dX2_sumOfOutTotals_14 rfl rfl ?_
        refine lX_out 16 hE (by omega) dX2_sumOfOutTotals_15 rfl ?_
        refine v_iadd 17 hE dX2_sumOfOutTotals_16 rfl ?_
        refine v_istore_n 18 hE [_, _, _] dX2_sumOfOutTotals_17 rfl (by decide) rfl rfl ?_
        refine v_iincN 21 hE [_, _, _] dX2_sumOfOutTotals_18 rfl (by decide) rfl rfl ?_
        refine v_goto hE 4 dX2_sumOfOutTotals_21 (by decide) ?_
        refine vV.sub [2, 1, 0] rfl ?_
        exact ih4 _ _ (by omega) (by simp [sumI, ha]) (by omega)
  exact L4 (5 + 1) _ _ (by omega) rfl (by omega)
end
