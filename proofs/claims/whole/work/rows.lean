section
-- ===== PART A: goes FIRST, ahead of the names: the tables' words, and 'selects' of the private methods out of them =====
/-- a private method of a class that the tables say can be made, by its rows of tables_1 -/
def lw_okq (q : MethodName × Nat) : Prop := (q.1.cls ≠ "java/lang/invoke/MethodHandle" ∧ q.1.cls ≠ "java/lang/invoke/VarHandle") ∧ Cond.instantiable q.1.cls q.2 ∈ tables_1 ∧ Cond.privateMethod q.1 ∈ tables_1 ∧ Cond.instanceMethod q.1 ∈ tables_1
theorem lw_p0 : lw_okq (⟨"DominoChains$Match", "slotNow", "(II)I"⟩, 2) := ⟨⟨by decide +kernel, by decide +kernel⟩, List.mem_of_getElem? (i := 39) (by decide +kernel), List.mem_of_getElem? (i := 470) (by decide +kernel), List.mem_of_getElem? (i := 471) (by decide +kernel)⟩
theorem lw_p1 : lw_okq (⟨"DominoChains$Solver", "shape", "(LDominoChains$Match;)V"⟩, 13) := ⟨⟨by decide +kernel, by decide +kernel⟩, List.mem_of_getElem? (i := 212) (by decide +kernel), List.mem_of_getElem? (i := 542) (by decide +kernel), List.mem_of_getElem? (i := 543) (by decide +kernel)⟩
theorem lw_p2 : lw_okq (⟨"DominoChains$Solver", "startWalk", "()V"⟩, 13) := ⟨⟨by decide +kernel, by decide +kernel⟩, List.mem_of_getElem? (i := 212) (by decide +kernel), List.mem_of_getElem? (i := 551) (by decide +kernel), List.mem_of_getElem? (i := 552) (by decide +kernel)⟩
theorem lw_p3 : lw_okq (⟨"DominoChains$Solver", "optimalHere", "(I)I"⟩, 13) := ⟨⟨by decide +kernel, by decide +kernel⟩, List.mem_of_getElem? (i := 212) (by decide +kernel), List.mem_of_getElem? (i := 555) (by decide +kernel), List.mem_of_getElem? (i := 556) (by decide +kernel)⟩
theorem lw_p4 : lw_okq (⟨"DominoChains$Solver", "isBurnable", "(I)Z"⟩, 13) := ⟨⟨by decide +kernel, by decide +kernel⟩, List.mem_of_getElem? (i := 212) (by decide +kernel), List.mem_of_getElem? (i := 559) (by decide +kernel), List.mem_of_getElem? (i := 560) (by decide +kernel)⟩
theorem lw_p5 : lw_okq (⟨"DominoChains$Solver", "leftValue", "(II)I"⟩, 13) := ⟨⟨by decide +kernel, by decide +kernel⟩, List.mem_of_getElem? (i := 212) (by decide +kernel), List.mem_of_getElem? (i := 563) (by decide +kernel), List.mem_of_getElem? (i := 564) (by decide +kernel)⟩
theorem lw_p6 : lw_okq (⟨"DominoChains$Solver", "leftPoints", "(I)I"⟩, 13) := ⟨⟨by decide +kernel, by decide +kernel⟩, List.mem_of_getElem? (i := 212) (by decide +kernel), List.mem_of_getElem? (i := 567) (by decide +kernel), List.mem_of_getElem? (i := 568) (by decide +kernel)⟩
theorem lw_p7 : lw_okq (⟨"DominoChains$Solver", "afterLeft", "(II)I"⟩, 13) := ⟨⟨by decide +kernel, by decide +kernel⟩, List.mem_of_getElem? (i := 212) (by decide +kernel), List.mem_of_getElem? (i := 571) (by decide +kernel), List.mem_of_getElem? (i := 572) (by decide +kernel)⟩
theorem lw_p8 : lw_okq (⟨"DominoChains$Solver", "rightValue", "(II)I"⟩, 13) := ⟨⟨by decide +kernel, by decide +kernel⟩, List.mem_of_getElem? (i := 212) (by decide +kernel), List.mem_of_getElem? (i := 575) (by decide +kernel), List.mem_of_getElem? (i := 576) (by decide +kernel)⟩
theorem lw_p9 : lw_okq (⟨"DominoChains$Solver", "rightPoints", "(I)I"⟩, 13) := ⟨⟨by decide +kernel, by decide +kernel⟩, List.mem_of_getElem? (i := 212) (by decide +kernel), List.mem_of_getElem? (i := 579) (by decide +kernel), List.mem_of_getElem? (i := 580) (by decide +kernel)⟩
theorem lw_p10 : lw_okq (⟨"DominoChains$Solver", "afterRight", "(II)I"⟩, 13) := ⟨⟨by decide +kernel, by decide +kernel⟩, List.mem_of_getElem? (i := 212) (by decide +kernel), List.mem_of_getElem? (i := 583) (by decide +kernel), List.mem_of_getElem? (i := 584) (by decide +kernel)⟩
theorem lw_p11 : lw_okq (⟨"DominoChains$Solver", "stepWalk", "()V"⟩, 13) := ⟨⟨by decide +kernel, by decide +kernel⟩, List.mem_of_getElem? (i := 212) (by decide +kernel), List.mem_of_getElem? (i := 587) (by decide +kernel), List.mem_of_getElem? (i := 588) (by decide +kernel)⟩
theorem lw_p12 : lw_okq (⟨"DominoChains$Solver", "placeAt", "(LDominoChains$Match;)I"⟩, 13) := ⟨⟨by decide +kernel, by decide +kernel⟩, List.mem_of_getElem? (i := 212) (by decide +kernel), List.mem_of_getElem? (i := 595) (by decide +kernel), List.mem_of_getElem? (i := 596) (by decide +kernel)⟩
theorem lw_p13 : lw_okq (⟨"DominoChains$Solver", "spanOf", "(II)I"⟩, 13) := ⟨⟨by decide +kernel, by decide +kernel⟩, List.mem_of_getElem? (i := 212) (by decide +kernel), List.mem_of_getElem? (i := 599) (by decide +kernel), List.mem_of_getElem? (i := 600) (by decide +kernel)⟩
theorem lw_p14 : lw_okq (⟨"DominoChains", "countBest", "()I"⟩, 12) := ⟨⟨by decide +kernel, by decide +kernel⟩, List.mem_of_getElem? (i := 25) (by decide +kernel), List.mem_of_getElem? (i := 607) (by decide +kernel), List.mem_of_getElem? (i := 608) (by decide +kernel)⟩
theorem lw_p15 : lw_okq (⟨"DominoChains", "firstBest", "(LDominoChains$Match;)I"⟩, 12) := ⟨⟨by decide +kernel, by decide +kernel⟩, List.mem_of_getElem? (i := 25) (by decide +kernel), List.mem_of_getElem? (i := 621) (by decide +kernel), List.mem_of_getElem? (i := 622) (by decide +kernel)⟩
def lw_privs_1 : List (MethodName × Nat) := [(⟨"DominoChains$Match", "slotNow", "(II)I"⟩, 2), (⟨"DominoChains$Solver", "shape", "(LDominoChains$Match;)V"⟩, 13), (⟨"DominoChains$Solver", "startWalk", "()V"⟩, 13), (⟨"DominoChains$Solver", "optimalHere", "(I)I"⟩, 13), (⟨"DominoChains$Solver", "isBurnable", "(I)Z"⟩, 13), (⟨"DominoChains$Solver", "leftValue", "(II)I"⟩, 13), (⟨"DominoChains$Solver", "leftPoints", "(I)I"⟩, 13), (⟨"DominoChains$Solver", "afterLeft", "(II)I"⟩, 13), (⟨"DominoChains$Solver", "rightValue", "(II)I"⟩, 13), (⟨"DominoChains$Solver", "rightPoints", "(I)I"⟩, 13), (⟨"DominoChains$Solver", "afterRight", "(II)I"⟩, 13), (⟨"DominoChains$Solver", "stepWalk", "()V"⟩, 13), (⟨"DominoChains$Solver", "placeAt", "(LDominoChains$Match;)I"⟩, 13), (⟨"DominoChains$Solver", "spanOf", "(II)I"⟩, 13), (⟨"DominoChains", "countBest", "()I"⟩, 12), (⟨"DominoChains", "firstBest", "(LDominoChains$Match;)I"⟩, 12)]
theorem lw_r1 : ∀ q ∈ lw_privs_1, lw_okq q := List.forall_mem_cons.mpr ⟨lw_p0, List.forall_mem_cons.mpr ⟨lw_p1, List.forall_mem_cons.mpr ⟨lw_p2, List.forall_mem_cons.mpr ⟨lw_p3, List.forall_mem_cons.mpr ⟨lw_p4, List.forall_mem_cons.mpr ⟨lw_p5, List.forall_mem_cons.mpr ⟨lw_p6, List.forall_mem_cons.mpr ⟨lw_p7, List.forall_mem_cons.mpr ⟨lw_p8, List.forall_mem_cons.mpr ⟨lw_p9, List.forall_mem_cons.mpr ⟨lw_p10, List.forall_mem_cons.mpr ⟨lw_p11, List.forall_mem_cons.mpr ⟨lw_p12, List.forall_mem_cons.mpr ⟨lw_p13, List.forall_mem_cons.mpr ⟨lw_p14, List.forall_mem_cons.mpr ⟨lw_p15, fun _ h => absurd h List.not_mem_nil⟩⟩⟩⟩⟩⟩⟩⟩⟩⟩⟩⟩⟩⟩⟩⟩
theorem lw_p16 : lw_okq (⟨"DominoChains", "tryOptimalLine", "()V"⟩, 12) := ⟨⟨by decide +kernel, by decide +kernel⟩, List.mem_of_getElem? (i := 25) (by decide +kernel), List.mem_of_getElem? (i := 629) (by decide +kernel), List.mem_of_getElem? (i := 630) (by decide +kernel)⟩
theorem lw_p17 : lw_okq (⟨"DominoChains", "playBest", "(LDominoChains$Match;I)I"⟩, 12) := ⟨⟨by decide +kernel, by decide +kernel⟩, List.mem_of_getElem? (i := 25) (by decide +kernel), List.mem_of_getElem? (i := 655) (by decide +kernel), List.mem_of_getElem? (i := 656) (by decide +kernel)⟩
theorem lw_p18 : lw_okq (⟨"DominoChains$Match", "takeEnd", "(I)V"⟩, 2) := ⟨⟨by decide +kernel, by decide +kernel⟩, List.mem_of_getElem? (i := 39) (by decide +kernel), List.mem_of_getElem? (i := 663) (by decide +kernel), List.mem_of_getElem? (i := 664) (by decide +kernel)⟩
theorem lw_p19 : lw_okq (⟨"DominoChains$Solver", "behindHere", "(I)I"⟩, 13) := ⟨⟨by decide +kernel, by decide +kernel⟩, List.mem_of_getElem? (i := 212) (by decide +kernel), List.mem_of_getElem? (i := 691) (by decide +kernel), List.mem_of_getElem? (i := 692) (by decide +kernel)⟩
theorem lw_p20 : lw_okq (⟨"DominoChains$Solver", "aheadHere", "(II)I"⟩, 13) := ⟨⟨by decide +kernel, by decide +kernel⟩, List.mem_of_getElem? (i := 212) (by decide +kernel), List.mem_of_getElem? (i := 695) (by decide +kernel), List.mem_of_getElem? (i := 696) (by decide +kernel)⟩
theorem lw_p21 : lw_okq (⟨"java/lang/Throwable", "fillInStackTrace", "(I)Ljava/lang/Throwable;"⟩, 6) := ⟨⟨by decide +kernel, by decide +kernel⟩, List.mem_of_getElem? (i := 783) (by decide +kernel), List.mem_of_getElem? (i := 781) (by decide +kernel), List.mem_of_getElem? (i := 782) (by decide +kernel)⟩
theorem lw_p22 : lw_okq (⟨"DominoChains", "addWord", "(I)V"⟩, 12) := ⟨⟨by decide +kernel, by decide +kernel⟩, List.mem_of_getElem? (i := 25) (by decide +kernel), List.mem_of_getElem? (i := 813) (by decide +kernel), List.mem_of_getElem? (i := 814) (by decide +kernel)⟩
theorem lw_p23 : lw_okq (⟨"DominoChains$Parser", "fail", "(I)Z"⟩, 6) := ⟨⟨by decide +kernel, by decide +kernel⟩, List.mem_of_getElem? (i := 33) (by decide +kernel), List.mem_of_getElem? (i := 923) (by decide +kernel), List.mem_of_getElem? (i := 924) (by decide +kernel)⟩
theorem lw_p24 : lw_okq (⟨"DominoChains$Parser", "readRound", "()Z"⟩, 6) := ⟨⟨by decide +kernel, by decide +kernel⟩, List.mem_of_getElem? (i := 33) (by decide +kernel), List.mem_of_getElem? (i := 927) (by decide +kernel), List.mem_of_getElem? (i := 928) (by decide +kernel)⟩
theorem lw_p25 : lw_okq (⟨"DominoChains$Parser", "readChain", "()Z"⟩, 6) := ⟨⟨by decide +kernel, by decide +kernel⟩, List.mem_of_getElem? (i := 33) (by decide +kernel), List.mem_of_getElem? (i := 934) (by decide +kernel), List.mem_of_getElem? (i := 935) (by decide +kernel)⟩
theorem lw_p26 : lw_okq (⟨"DominoChains$Parser", "tileFault", "(I)I"⟩, 6) := ⟨⟨by decide +kernel, by decide +kernel⟩, List.mem_of_getElem? (i := 33) (by decide +kernel), List.mem_of_getElem? (i := 938) (by decide +kernel), List.mem_of_getElem? (i := 939) (by decide +kernel)⟩
theorem lw_p27 : lw_okq (⟨"DominoChains$Parser", "takeTile", "(II)V"⟩, 6) := ⟨⟨by decide +kernel, by decide +kernel⟩, List.mem_of_getElem? (i := 33) (by decide +kernel), List.mem_of_getElem? (i := 954) (by decide +kernel), List.mem_of_getElem? (i := 955) (by decide +kernel)⟩
theorem lw_p28 : lw_okq (⟨"DominoChains$Parser", "readMove", "()Z"⟩, 6) := ⟨⟨by decide +kernel, by decide +kernel⟩, List.mem_of_getElem? (i := 33) (by decide +kernel), List.mem_of_getElem? (i := 965) (by decide +kernel), List.mem_of_getElem? (i := 966) (by decide +kernel)⟩
theorem lw_p29 : lw_okq (⟨"DominoChains$Parser", "readBurn", "(Z)Z"⟩, 6) := ⟨⟨by decide +kernel, by decide +kernel⟩, List.mem_of_getElem? (i := 33) (by decide +kernel), List.mem_of_getElem? (i := 970) (by decide +kernel), List.mem_of_getElem? (i := 971) (by decide +kernel)⟩
theorem lw_p30 : lw_okq (⟨"DominoChains$Parser", "readSemicolon", "()Z"⟩, 6) := ⟨⟨by decide +kernel, by decide +kernel⟩, List.mem_of_getElem? (i := 33) (by decide +kernel), List.mem_of_getElem? (i := 976) (by decide +kernel), List.mem_of_getElem? (i := 977) (by decide +kernel)⟩
theorem lw_p31 : lw_okq (⟨"DominoChains$Parser", "readPass", "()Z"⟩, 6) := ⟨⟨by decide +kernel, by decide +kernel⟩, List.mem_of_getElem? (i := 33) (by decide +kernel), List.mem_of_getElem? (i := 984) (by decide +kernel), List.mem_of_getElem? (i := 985) (by decide +kernel)⟩
def lw_privs_2 : List (MethodName × Nat) := [(⟨"DominoChains", "tryOptimalLine", "()V"⟩, 12), (⟨"DominoChains", "playBest", "(LDominoChains$Match;I)I"⟩, 12), (⟨"DominoChains$Match", "takeEnd", "(I)V"⟩, 2), (⟨"DominoChains$Solver", "behindHere", "(I)I"⟩, 13), (⟨"DominoChains$Solver", "aheadHere", "(II)I"⟩, 13), (⟨"java/lang/Throwable", "fillInStackTrace", "(I)Ljava/lang/Throwable;"⟩, 6), (⟨"DominoChains", "addWord", "(I)V"⟩, 12), (⟨"DominoChains$Parser", "fail", "(I)Z"⟩, 6), (⟨"DominoChains$Parser", "readRound", "()Z"⟩, 6), (⟨"DominoChains$Parser", "readChain", "()Z"⟩, 6), (⟨"DominoChains$Parser", "tileFault", "(I)I"⟩, 6), (⟨"DominoChains$Parser", "takeTile", "(II)V"⟩, 6), (⟨"DominoChains$Parser", "readMove", "()Z"⟩, 6), (⟨"DominoChains$Parser", "readBurn", "(Z)Z"⟩, 6), (⟨"DominoChains$Parser", "readSemicolon", "()Z"⟩, 6), (⟨"DominoChains$Parser", "readPass", "()Z"⟩, 6)]
theorem lw_r2 : ∀ q ∈ lw_privs_2, lw_okq q := List.forall_mem_cons.mpr ⟨lw_p16, List.forall_mem_cons.mpr ⟨lw_p17, List.forall_mem_cons.mpr ⟨lw_p18, List.forall_mem_cons.mpr ⟨lw_p19, List.forall_mem_cons.mpr ⟨lw_p20, List.forall_mem_cons.mpr ⟨lw_p21, List.forall_mem_cons.mpr ⟨lw_p22, List.forall_mem_cons.mpr ⟨lw_p23, List.forall_mem_cons.mpr ⟨lw_p24, List.forall_mem_cons.mpr ⟨lw_p25, List.forall_mem_cons.mpr ⟨lw_p26, List.forall_mem_cons.mpr ⟨lw_p27, List.forall_mem_cons.mpr ⟨lw_p28, List.forall_mem_cons.mpr ⟨lw_p29, List.forall_mem_cons.mpr ⟨lw_p30, List.forall_mem_cons.mpr ⟨lw_p31, fun _ h => absurd h List.not_mem_nil⟩⟩⟩⟩⟩⟩⟩⟩⟩⟩⟩⟩⟩⟩⟩⟩
theorem lw_p32 : lw_okq (⟨"DominoChains$Parser", "readNext", "()Z"⟩, 6) := ⟨⟨by decide +kernel, by decide +kernel⟩, List.mem_of_getElem? (i := 33) (by decide +kernel), List.mem_of_getElem? (i := 989) (by decide +kernel), List.mem_of_getElem? (i := 990) (by decide +kernel)⟩
theorem lw_p33 : lw_okq (⟨"DominoChains", "needRound", "(I)V"⟩, 12) := ⟨⟨by decide +kernel, by decide +kernel⟩, List.mem_of_getElem? (i := 25) (by decide +kernel), List.mem_of_getElem? (i := 1016) (by decide +kernel), List.mem_of_getElem? (i := 1017) (by decide +kernel)⟩
theorem lw_p34 : lw_okq (⟨"DominoChains", "needPlayer", "(I)V"⟩, 12) := ⟨⟨by decide +kernel, by decide +kernel⟩, List.mem_of_getElem? (i := 25) (by decide +kernel), List.mem_of_getElem? (i := 1044) (by decide +kernel), List.mem_of_getElem? (i := 1045) (by decide +kernel)⟩
theorem lw_p35 : lw_okq (⟨"DominoChains", "needChain", "(I)V"⟩, 12) := ⟨⟨by decide +kernel, by decide +kernel⟩, List.mem_of_getElem? (i := 25) (by decide +kernel), List.mem_of_getElem? (i := 1093) (by decide +kernel), List.mem_of_getElem? (i := 1094) (by decide +kernel)⟩
theorem lw_p36 : lw_okq (⟨"DominoChains", "needTile", "(II)V"⟩, 12) := ⟨⟨by decide +kernel, by decide +kernel⟩, List.mem_of_getElem? (i := 25) (by decide +kernel), List.mem_of_getElem? (i := 1105) (by decide +kernel), List.mem_of_getElem? (i := 1106) (by decide +kernel)⟩
theorem lw_p37 : lw_okq (⟨"DominoChains", "neededCode", "(I)I"⟩, 12) := ⟨⟨by decide +kernel, by decide +kernel⟩, List.mem_of_getElem? (i := 25) (by decide +kernel), List.mem_of_getElem? (i := 1147) (by decide +kernel), List.mem_of_getElem? (i := 1148) (by decide +kernel)⟩
theorem lw_p38 : lw_okq (⟨"DominoChains", "needLogged", "(I)V"⟩, 12) := ⟨⟨by decide +kernel, by decide +kernel⟩, List.mem_of_getElem? (i := 25) (by decide +kernel), List.mem_of_getElem? (i := 1182) (by decide +kernel), List.mem_of_getElem? (i := 1183) (by decide +kernel)⟩
theorem lw_p39 : lw_okq (⟨"DominoChains$History", "slotAt", "(I)LDominoChains$State;"⟩, 3) := ⟨⟨by decide +kernel, by decide +kernel⟩, List.mem_of_getElem? (i := 259) (by decide +kernel), List.mem_of_getElem? (i := 1295) (by decide +kernel), List.mem_of_getElem? (i := 1296) (by decide +kernel)⟩
theorem lw_p40 : lw_okq (⟨"DominoChainsModel", "begins", "()V"⟩, 17) := ⟨⟨by decide +kernel, by decide +kernel⟩, List.mem_of_getElem? (i := 1361) (by decide +kernel), List.mem_of_getElem? (i := 1368) (by decide +kernel), List.mem_of_getElem? (i := 1369) (by decide +kernel)⟩
theorem lw_p41 : lw_okq (⟨"DominoChainsModel", "set", "(II)V"⟩, 17) := ⟨⟨by decide +kernel, by decide +kernel⟩, List.mem_of_getElem? (i := 1361) (by decide +kernel), List.mem_of_getElem? (i := 1372) (by decide +kernel), List.mem_of_getElem? (i := 1373) (by decide +kernel)⟩
theorem lw_p42 : lw_okq (⟨"DominoChainsModel", "deals", "(I)V"⟩, 17) := ⟨⟨by decide +kernel, by decide +kernel⟩, List.mem_of_getElem? (i := 1361) (by decide +kernel), List.mem_of_getElem? (i := 1376) (by decide +kernel), List.mem_of_getElem? (i := 1377) (by decide +kernel)⟩
theorem lw_p43 : lw_okq (⟨"DominoChainsModel", "get", "(I)I"⟩, 17) := ⟨⟨by decide +kernel, by decide +kernel⟩, List.mem_of_getElem? (i := 1361) (by decide +kernel), List.mem_of_getElem? (i := 1380) (by decide +kernel), List.mem_of_getElem? (i := 1381) (by decide +kernel)⟩
theorem lw_p44 : lw_okq (⟨"DominoChainsModel", "fails", "(I)I"⟩, 17) := ⟨⟨by decide +kernel, by decide +kernel⟩, List.mem_of_getElem? (i := 1361) (by decide +kernel), List.mem_of_getElem? (i := 1445) (by decide +kernel), List.mem_of_getElem? (i := 1446) (by decide +kernel)⟩
theorem lw_p45 : lw_okq (⟨"DominoChainsModel", "feeds", "(I)V"⟩, 17) := ⟨⟨by decide +kernel, by decide +kernel⟩, List.mem_of_getElem? (i := 1361) (by decide +kernel), List.mem_of_getElem? (i := 1449) (by decide +kernel), List.mem_of_getElem? (i := 1450) (by decide +kernel)⟩
theorem lw_p46 : lw_okq (⟨"DominoChainsModel", "reads", "()Z"⟩, 17) := ⟨⟨by decide +kernel, by decide +kernel⟩, List.mem_of_getElem? (i := 1361) (by decide +kernel), List.mem_of_getElem? (i := 1461) (by decide +kernel), List.mem_of_getElem? (i := 1462) (by decide +kernel)⟩
theorem lw_p47 : lw_okq (⟨"DominoChainsModel", "token", "()Z"⟩, 17) := ⟨⟨by decide +kernel, by decide +kernel⟩, List.mem_of_getElem? (i := 1361) (by decide +kernel), List.mem_of_getElem? (i := 1465) (by decide +kernel), List.mem_of_getElem? (i := 1466) (by decide +kernel)⟩
def lw_privs_3 : List (MethodName × Nat) := [(⟨"DominoChains$Parser", "readNext", "()Z"⟩, 6), (⟨"DominoChains", "needRound", "(I)V"⟩, 12), (⟨"DominoChains", "needPlayer", "(I)V"⟩, 12), (⟨"DominoChains", "needChain", "(I)V"⟩, 12), (⟨"DominoChains", "needTile", "(II)V"⟩, 12), (⟨"DominoChains", "neededCode", "(I)I"⟩, 12), (⟨"DominoChains", "needLogged", "(I)V"⟩, 12), (⟨"DominoChains$History", "slotAt", "(I)LDominoChains$State;"⟩, 3), (⟨"DominoChainsModel", "begins", "()V"⟩, 17), (⟨"DominoChainsModel", "set", "(II)V"⟩, 17), (⟨"DominoChainsModel", "deals", "(I)V"⟩, 17), (⟨"DominoChainsModel", "get", "(I)I"⟩, 17), (⟨"DominoChainsModel", "fails", "(I)I"⟩, 17), (⟨"DominoChainsModel", "feeds", "(I)V"⟩, 17), (⟨"DominoChainsModel", "reads", "()Z"⟩, 17), (⟨"DominoChainsModel", "token", "()Z"⟩, 17)]
theorem lw_r3 : ∀ q ∈ lw_privs_3, lw_okq q := List.forall_mem_cons.mpr ⟨lw_p32, List.forall_mem_cons.mpr ⟨lw_p33, List.forall_mem_cons.mpr ⟨lw_p34, List.forall_mem_cons.mpr ⟨lw_p35, List.forall_mem_cons.mpr ⟨lw_p36, List.forall_mem_cons.mpr ⟨lw_p37, List.forall_mem_cons.mpr ⟨lw_p38, List.forall_mem_cons.mpr ⟨lw_p39, List.forall_mem_cons.mpr ⟨lw_p40, List.forall_mem_cons.mpr ⟨lw_p41, List.forall_mem_cons.mpr ⟨lw_p42, List.forall_mem_cons.mpr ⟨lw_p43, List.forall_mem_cons.mpr ⟨lw_p44, List.forall_mem_cons.mpr ⟨lw_p45, List.forall_mem_cons.mpr ⟨lw_p46, List.forall_mem_cons.mpr ⟨lw_p47, fun _ h => absurd h List.not_mem_nil⟩⟩⟩⟩⟩⟩⟩⟩⟩⟩⟩⟩⟩⟩⟩⟩
theorem lw_p48 : lw_okq (⟨"DominoChainsModel", "isIn", "(III)Z"⟩, 17) := ⟨⟨by decide +kernel, by decide +kernel⟩, List.mem_of_getElem? (i := 1361) (by decide +kernel), List.mem_of_getElem? (i := 1469) (by decide +kernel), List.mem_of_getElem? (i := 1470) (by decide +kernel)⟩
theorem lw_p49 : lw_okq (⟨"DominoChainsModel", "faults", "(I)Z"⟩, 17) := ⟨⟨by decide +kernel, by decide +kernel⟩, List.mem_of_getElem? (i := 1361) (by decide +kernel), List.mem_of_getElem? (i := 1473) (by decide +kernel), List.mem_of_getElem? (i := 1474) (by decide +kernel)⟩
theorem lw_p50 : lw_okq (⟨"DominoChainsModel", "isRoundWord", "()Z"⟩, 17) := ⟨⟨by decide +kernel, by decide +kernel⟩, List.mem_of_getElem? (i := 1361) (by decide +kernel), List.mem_of_getElem? (i := 1477) (by decide +kernel), List.mem_of_getElem? (i := 1478) (by decide +kernel)⟩
theorem lw_p51 : lw_okq (⟨"DominoChainsModel", "isWord", "(IIIII)Z"⟩, 17) := ⟨⟨by decide +kernel, by decide +kernel⟩, List.mem_of_getElem? (i := 1361) (by decide +kernel), List.mem_of_getElem? (i := 1481) (by decide +kernel), List.mem_of_getElem? (i := 1482) (by decide +kernel)⟩
theorem lw_p52 : lw_okq (⟨"DominoChainsModel", "letterIs", "(II)Z"⟩, 17) := ⟨⟨by decide +kernel, by decide +kernel⟩, List.mem_of_getElem? (i := 1361) (by decide +kernel), List.mem_of_getElem? (i := 1485) (by decide +kernel), List.mem_of_getElem? (i := 1486) (by decide +kernel)⟩
theorem lw_p53 : lw_okq (⟨"DominoChainsModel", "readsRound", "()Z"⟩, 17) := ⟨⟨by decide +kernel, by decide +kernel⟩, List.mem_of_getElem? (i := 1361) (by decide +kernel), List.mem_of_getElem? (i := 1489) (by decide +kernel), List.mem_of_getElem? (i := 1490) (by decide +kernel)⟩
theorem lw_p54 : lw_okq (⟨"DominoChainsModel", "readsChain", "(I)Z"⟩, 17) := ⟨⟨by decide +kernel, by decide +kernel⟩, List.mem_of_getElem? (i := 1361) (by decide +kernel), List.mem_of_getElem? (i := 1493) (by decide +kernel), List.mem_of_getElem? (i := 1494) (by decide +kernel)⟩
theorem lw_p55 : lw_okq (⟨"DominoChainsModel", "isThere", "(II)Z"⟩, 17) := ⟨⟨by decide +kernel, by decide +kernel⟩, List.mem_of_getElem? (i := 1361) (by decide +kernel), List.mem_of_getElem? (i := 1500) (by decide +kernel), List.mem_of_getElem? (i := 1501) (by decide +kernel)⟩
theorem lw_p56 : lw_okq (⟨"DominoChainsModel", "readsMove", "()Z"⟩, 17) := ⟨⟨by decide +kernel, by decide +kernel⟩, List.mem_of_getElem? (i := 1361) (by decide +kernel), List.mem_of_getElem? (i := 1504) (by decide +kernel), List.mem_of_getElem? (i := 1505) (by decide +kernel)⟩
theorem lw_p57 : lw_okq (⟨"DominoChainsModel", "readsBurn", "(I)Z"⟩, 17) := ⟨⟨by decide +kernel, by decide +kernel⟩, List.mem_of_getElem? (i := 1361) (by decide +kernel), List.mem_of_getElem? (i := 1508) (by decide +kernel), List.mem_of_getElem? (i := 1509) (by decide +kernel)⟩
theorem lw_p58 : lw_okq (⟨"DominoChainsModel", "is", "(I)Z"⟩, 17) := ⟨⟨by decide +kernel, by decide +kernel⟩, List.mem_of_getElem? (i := 1361) (by decide +kernel), List.mem_of_getElem? (i := 1512) (by decide +kernel), List.mem_of_getElem? (i := 1513) (by decide +kernel)⟩
theorem lw_p59 : lw_okq (⟨"DominoChainsModel", "isChain", "(I)Z"⟩, 17) := ⟨⟨by decide +kernel, by decide +kernel⟩, List.mem_of_getElem? (i := 1361) (by decide +kernel), List.mem_of_getElem? (i := 1516) (by decide +kernel), List.mem_of_getElem? (i := 1517) (by decide +kernel)⟩
theorem lw_p60 : lw_okq (⟨"DominoChainsModel", "chains", "()I"⟩, 17) := ⟨⟨by decide +kernel, by decide +kernel⟩, List.mem_of_getElem? (i := 1361) (by decide +kernel), List.mem_of_getElem? (i := 1520) (by decide +kernel), List.mem_of_getElem? (i := 1521) (by decide +kernel)⟩
theorem lw_p61 : lw_okq (⟨"DominoChainsModel", "isOver", "()Z"⟩, 17) := ⟨⟨by decide +kernel, by decide +kernel⟩, List.mem_of_getElem? (i := 1361) (by decide +kernel), List.mem_of_getElem? (i := 1524) (by decide +kernel), List.mem_of_getElem? (i := 1525) (by decide +kernel)⟩
theorem lw_p62 : lw_okq (⟨"DominoChainsModel", "areShort", "()Z"⟩, 17) := ⟨⟨by decide +kernel, by decide +kernel⟩, List.mem_of_getElem? (i := 1361) (by decide +kernel), List.mem_of_getElem? (i := 1528) (by decide +kernel), List.mem_of_getElem? (i := 1529) (by decide +kernel)⟩
theorem lw_p63 : lw_okq (⟨"DominoChainsModel", "isBurnable", "(I)Z"⟩, 17) := ⟨⟨by decide +kernel, by decide +kernel⟩, List.mem_of_getElem? (i := 1361) (by decide +kernel), List.mem_of_getElem? (i := 1532) (by decide +kernel), List.mem_of_getElem? (i := 1533) (by decide +kernel)⟩
def lw_privs_4 : List (MethodName × Nat) := [(⟨"DominoChainsModel", "isIn", "(III)Z"⟩, 17), (⟨"DominoChainsModel", "faults", "(I)Z"⟩, 17), (⟨"DominoChainsModel", "isRoundWord", "()Z"⟩, 17), (⟨"DominoChainsModel", "isWord", "(IIIII)Z"⟩, 17), (⟨"DominoChainsModel", "letterIs", "(II)Z"⟩, 17), (⟨"DominoChainsModel", "readsRound", "()Z"⟩, 17), (⟨"DominoChainsModel", "readsChain", "(I)Z"⟩, 17), (⟨"DominoChainsModel", "isThere", "(II)Z"⟩, 17), (⟨"DominoChainsModel", "readsMove", "()Z"⟩, 17), (⟨"DominoChainsModel", "readsBurn", "(I)Z"⟩, 17), (⟨"DominoChainsModel", "is", "(I)Z"⟩, 17), (⟨"DominoChainsModel", "isChain", "(I)Z"⟩, 17), (⟨"DominoChainsModel", "chains", "()I"⟩, 17), (⟨"DominoChainsModel", "isOver", "()Z"⟩, 17), (⟨"DominoChainsModel", "areShort", "()Z"⟩, 17), (⟨"DominoChainsModel", "isBurnable", "(I)Z"⟩, 17)]
theorem lw_r4 : ∀ q ∈ lw_privs_4, lw_okq q := List.forall_mem_cons.mpr ⟨lw_p48, List.forall_mem_cons.mpr ⟨lw_p49, List.forall_mem_cons.mpr ⟨lw_p50, List.forall_mem_cons.mpr ⟨lw_p51, List.forall_mem_cons.mpr ⟨lw_p52, List.forall_mem_cons.mpr ⟨lw_p53, List.forall_mem_cons.mpr ⟨lw_p54, List.forall_mem_cons.mpr ⟨lw_p55, List.forall_mem_cons.mpr ⟨lw_p56, List.forall_mem_cons.mpr ⟨lw_p57, List.forall_mem_cons.mpr ⟨lw_p58, List.forall_mem_cons.mpr ⟨lw_p59, List.forall_mem_cons.mpr ⟨lw_p60, List.forall_mem_cons.mpr ⟨lw_p61, List.forall_mem_cons.mpr ⟨lw_p62, List.forall_mem_cons.mpr ⟨lw_p63, fun _ h => absurd h List.not_mem_nil⟩⟩⟩⟩⟩⟩⟩⟩⟩⟩⟩⟩⟩⟩⟩⟩
theorem lw_p64 : lw_okq (⟨"DominoChainsModel", "lengthOf", "(I)I"⟩, 17) := ⟨⟨by decide +kernel, by decide +kernel⟩, List.mem_of_getElem? (i := 1361) (by decide +kernel), List.mem_of_getElem? (i := 1536) (by decide +kernel), List.mem_of_getElem? (i := 1537) (by decide +kernel)⟩
theorem lw_p65 : lw_okq (⟨"DominoChainsModel", "makes", "(I)V"⟩, 17) := ⟨⟨by decide +kernel, by decide +kernel⟩, List.mem_of_getElem? (i := 1361) (by decide +kernel), List.mem_of_getElem? (i := 1540) (by decide +kernel), List.mem_of_getElem? (i := 1541) (by decide +kernel)⟩
theorem lw_p66 : lw_okq (⟨"DominoChainsModel", "scoreOfMove", "(I)I"⟩, 17) := ⟨⟨by decide +kernel, by decide +kernel⟩, List.mem_of_getElem? (i := 1361) (by decide +kernel), List.mem_of_getElem? (i := 1544) (by decide +kernel), List.mem_of_getElem? (i := 1545) (by decide +kernel)⟩
theorem lw_p67 : lw_okq (⟨"DominoChainsModel", "scoreAt", "(II)I"⟩, 17) := ⟨⟨by decide +kernel, by decide +kernel⟩, List.mem_of_getElem? (i := 1361) (by decide +kernel), List.mem_of_getElem? (i := 1548) (by decide +kernel), List.mem_of_getElem? (i := 1549) (by decide +kernel)⟩
theorem lw_p68 : lw_okq (⟨"DominoChainsModel", "laid", "(II)I"⟩, 17) := ⟨⟨by decide +kernel, by decide +kernel⟩, List.mem_of_getElem? (i := 1361) (by decide +kernel), List.mem_of_getElem? (i := 1552) (by decide +kernel), List.mem_of_getElem? (i := 1553) (by decide +kernel)⟩
theorem lw_p69 : lw_okq (⟨"DominoChainsModel", "adds", "(II)V"⟩, 17) := ⟨⟨by decide +kernel, by decide +kernel⟩, List.mem_of_getElem? (i := 1361) (by decide +kernel), List.mem_of_getElem? (i := 1562) (by decide +kernel), List.mem_of_getElem? (i := 1563) (by decide +kernel)⟩
theorem lw_p70 : lw_okq (⟨"DominoChainsModel", "removes", "(I)V"⟩, 17) := ⟨⟨by decide +kernel, by decide +kernel⟩, List.mem_of_getElem? (i := 1361) (by decide +kernel), List.mem_of_getElem? (i := 1566) (by decide +kernel), List.mem_of_getElem? (i := 1567) (by decide +kernel)⟩
theorem lw_p71 : lw_okq (⟨"DominoChainsModel", "isLast", "()Z"⟩, 17) := ⟨⟨by decide +kernel, by decide +kernel⟩, List.mem_of_getElem? (i := 1361) (by decide +kernel), List.mem_of_getElem? (i := 1570) (by decide +kernel), List.mem_of_getElem? (i := 1571) (by decide +kernel)⟩
theorem lw_p72 : lw_okq (⟨"DominoChainsModel", "goesOn", "()V"⟩, 17) := ⟨⟨by decide +kernel, by decide +kernel⟩, List.mem_of_getElem? (i := 1361) (by decide +kernel), List.mem_of_getElem? (i := 1574) (by decide +kernel), List.mem_of_getElem? (i := 1575) (by decide +kernel)⟩
theorem lw_p73 : lw_okq (⟨"DominoChainsModel", "scoreNow", "(I)I"⟩, 17) := ⟨⟨by decide +kernel, by decide +kernel⟩, List.mem_of_getElem? (i := 1361) (by decide +kernel), List.mem_of_getElem? (i := 1578) (by decide +kernel), List.mem_of_getElem? (i := 1579) (by decide +kernel)⟩
theorem lw_p74 : lw_okq (⟨"DominoChainsModel", "scoreIn", "(II)I"⟩, 17) := ⟨⟨by decide +kernel, by decide +kernel⟩, List.mem_of_getElem? (i := 1361) (by decide +kernel), List.mem_of_getElem? (i := 1582) (by decide +kernel), List.mem_of_getElem? (i := 1583) (by decide +kernel)⟩
theorem lw_p75 : lw_okq (⟨"DominoChainsModel", "copies", "(II)V"⟩, 17) := ⟨⟨by decide +kernel, by decide +kernel⟩, List.mem_of_getElem? (i := 1361) (by decide +kernel), List.mem_of_getElem? (i := 1586) (by decide +kernel), List.mem_of_getElem? (i := 1587) (by decide +kernel)⟩
theorem lw_p76 : lw_okq (⟨"DominoChainsModel", "isRound", "(I)Z"⟩, 17) := ⟨⟨by decide +kernel, by decide +kernel⟩, List.mem_of_getElem? (i := 1361) (by decide +kernel), List.mem_of_getElem? (i := 1618) (by decide +kernel), List.mem_of_getElem? (i := 1619) (by decide +kernel)⟩
theorem lw_p77 : lw_okq (⟨"DominoChainsModel", "winnerOf", "(I)I"⟩, 17) := ⟨⟨by decide +kernel, by decide +kernel⟩, List.mem_of_getElem? (i := 1361) (by decide +kernel), List.mem_of_getElem? (i := 1622) (by decide +kernel), List.mem_of_getElem? (i := 1623) (by decide +kernel)⟩
theorem lw_p78 : lw_okq (⟨"DominoChainsModel", "wonBy", "(I)I"⟩, 17) := ⟨⟨by decide +kernel, by decide +kernel⟩, List.mem_of_getElem? (i := 1361) (by decide +kernel), List.mem_of_getElem? (i := 1633) (by decide +kernel), List.mem_of_getElem? (i := 1634) (by decide +kernel)⟩
theorem lw_p79 : lw_okq (⟨"DominoChainsModel", "totalOf", "(I)I"⟩, 17) := ⟨⟨by decide +kernel, by decide +kernel⟩, List.mem_of_getElem? (i := 1361) (by decide +kernel), List.mem_of_getElem? (i := 1641) (by decide +kernel), List.mem_of_getElem? (i := 1642) (by decide +kernel)⟩
def lw_privs_5 : List (MethodName × Nat) := [(⟨"DominoChainsModel", "lengthOf", "(I)I"⟩, 17), (⟨"DominoChainsModel", "makes", "(I)V"⟩, 17), (⟨"DominoChainsModel", "scoreOfMove", "(I)I"⟩, 17), (⟨"DominoChainsModel", "scoreAt", "(II)I"⟩, 17), (⟨"DominoChainsModel", "laid", "(II)I"⟩, 17), (⟨"DominoChainsModel", "adds", "(II)V"⟩, 17), (⟨"DominoChainsModel", "removes", "(I)V"⟩, 17), (⟨"DominoChainsModel", "isLast", "()Z"⟩, 17), (⟨"DominoChainsModel", "goesOn", "()V"⟩, 17), (⟨"DominoChainsModel", "scoreNow", "(I)I"⟩, 17), (⟨"DominoChainsModel", "scoreIn", "(II)I"⟩, 17), (⟨"DominoChainsModel", "copies", "(II)V"⟩, 17), (⟨"DominoChainsModel", "isRound", "(I)Z"⟩, 17), (⟨"DominoChainsModel", "winnerOf", "(I)I"⟩, 17), (⟨"DominoChainsModel", "wonBy", "(I)I"⟩, 17), (⟨"DominoChainsModel", "totalOf", "(I)I"⟩, 17)]
theorem lw_r5 : ∀ q ∈ lw_privs_5, lw_okq q := List.forall_mem_cons.mpr ⟨lw_p64, List.forall_mem_cons.mpr ⟨lw_p65, List.forall_mem_cons.mpr ⟨lw_p66, List.forall_mem_cons.mpr ⟨lw_p67, List.forall_mem_cons.mpr ⟨lw_p68, List.forall_mem_cons.mpr ⟨lw_p69, List.forall_mem_cons.mpr ⟨lw_p70, List.forall_mem_cons.mpr ⟨lw_p71, List.forall_mem_cons.mpr ⟨lw_p72, List.forall_mem_cons.mpr ⟨lw_p73, List.forall_mem_cons.mpr ⟨lw_p74, List.forall_mem_cons.mpr ⟨lw_p75, List.forall_mem_cons.mpr ⟨lw_p76, List.forall_mem_cons.mpr ⟨lw_p77, List.forall_mem_cons.mpr ⟨lw_p78, List.forall_mem_cons.mpr ⟨lw_p79, fun _ h => absurd h List.not_mem_nil⟩⟩⟩⟩⟩⟩⟩⟩⟩⟩⟩⟩⟩⟩⟩⟩
theorem lw_p80 : lw_okq (⟨"DominoChainsModel", "isTile", "(II)Z"⟩, 17) := ⟨⟨by decide +kernel, by decide +kernel⟩, List.mem_of_getElem? (i := 1361) (by decide +kernel), List.mem_of_getElem? (i := 1681) (by decide +kernel), List.mem_of_getElem? (i := 1682) (by decide +kernel)⟩
theorem lw_p81 : lw_okq (⟨"DominoChainsModel", "tileOf", "(II)I"⟩, 17) := ⟨⟨by decide +kernel, by decide +kernel⟩, List.mem_of_getElem? (i := 1361) (by decide +kernel), List.mem_of_getElem? (i := 1685) (by decide +kernel), List.mem_of_getElem? (i := 1686) (by decide +kernel)⟩
theorem lw_p82 : lw_okq (⟨"DominoChainsModel", "sumOf", "(I)I"⟩, 17) := ⟨⟨by decide +kernel, by decide +kernel⟩, List.mem_of_getElem? (i := 1361) (by decide +kernel), List.mem_of_getElem? (i := 1701) (by decide +kernel), List.mem_of_getElem? (i := 1702) (by decide +kernel)⟩
theorem lw_p83 : lw_okq (⟨"DominoChainsModel", "moves", "()I"⟩, 17) := ⟨⟨by decide +kernel, by decide +kernel⟩, List.mem_of_getElem? (i := 1361) (by decide +kernel), List.mem_of_getElem? (i := 1724) (by decide +kernel), List.mem_of_getElem? (i := 1725) (by decide +kernel)⟩
theorem lw_p84 : lw_okq (⟨"DominoChainsModel", "isMove", "(I)Z"⟩, 17) := ⟨⟨by decide +kernel, by decide +kernel⟩, List.mem_of_getElem? (i := 1361) (by decide +kernel), List.mem_of_getElem? (i := 1732) (by decide +kernel), List.mem_of_getElem? (i := 1733) (by decide +kernel)⟩
theorem lw_p85 : lw_okq (⟨"DominoChainsModel", "moveAt", "(I)I"⟩, 17) := ⟨⟨by decide +kernel, by decide +kernel⟩, List.mem_of_getElem? (i := 1361) (by decide +kernel), List.mem_of_getElem? (i := 1736) (by decide +kernel), List.mem_of_getElem? (i := 1737) (by decide +kernel)⟩
theorem lw_p86 : lw_okq (⟨"DominoChainsModel", "greedy", "()I"⟩, 17) := ⟨⟨by decide +kernel, by decide +kernel⟩, List.mem_of_getElem? (i := 1361) (by decide +kernel), List.mem_of_getElem? (i := 1768) (by decide +kernel), List.mem_of_getElem? (i := 1769) (by decide +kernel)⟩
theorem lw_p87 : lw_okq (⟨"DominoChainsModel", "greatestOf", "(I)I"⟩, 17) := ⟨⟨by decide +kernel, by decide +kernel⟩, List.mem_of_getElem? (i := 1361) (by decide +kernel), List.mem_of_getElem? (i := 1780) (by decide +kernel), List.mem_of_getElem? (i := 1781) (by decide +kernel)⟩
theorem lw_p88 : lw_okq (⟨"DominoChainsModel", "lowestOf", "(I)I"⟩, 17) := ⟨⟨by decide +kernel, by decide +kernel⟩, List.mem_of_getElem? (i := 1361) (by decide +kernel), List.mem_of_getElem? (i := 1784) (by decide +kernel), List.mem_of_getElem? (i := 1785) (by decide +kernel)⟩
theorem lw_p89 : lw_okq (⟨"DominoChainsModel", "forgets", "()V"⟩, 17) := ⟨⟨by decide +kernel, by decide +kernel⟩, List.mem_of_getElem? (i := 1361) (by decide +kernel), List.mem_of_getElem? (i := 1797) (by decide +kernel), List.mem_of_getElem? (i := 1798) (by decide +kernel)⟩
theorem lw_p90 : lw_okq (⟨"DominoChainsModel", "valueOf", "(I)I"⟩, 17) := ⟨⟨by decide +kernel, by decide +kernel⟩, List.mem_of_getElem? (i := 1361) (by decide +kernel), List.mem_of_getElem? (i := 1803) (by decide +kernel), List.mem_of_getElem? (i := 1804) (by decide +kernel)⟩
theorem lw_p91 : lw_okq (⟨"DominoChainsModel", "burnValue", "(I)I"⟩, 17) := ⟨⟨by decide +kernel, by decide +kernel⟩, List.mem_of_getElem? (i := 1361) (by decide +kernel), List.mem_of_getElem? (i := 1807) (by decide +kernel), List.mem_of_getElem? (i := 1808) (by decide +kernel)⟩
theorem lw_p92 : lw_okq (⟨"DominoChainsModel", "optimal", "(Z)I"⟩, 17) := ⟨⟨by decide +kernel, by decide +kernel⟩, List.mem_of_getElem? (i := 1361) (by decide +kernel), List.mem_of_getElem? (i := 1811) (by decide +kernel), List.mem_of_getElem? (i := 1812) (by decide +kernel)⟩
theorem lw_p93 : lw_okq (⟨"DominoChainsModel", "valuePlace", "(Z)I"⟩, 17) := ⟨⟨by decide +kernel, by decide +kernel⟩, List.mem_of_getElem? (i := 1361) (by decide +kernel), List.mem_of_getElem? (i := 1815) (by decide +kernel), List.mem_of_getElem? (i := 1816) (by decide +kernel)⟩
theorem lw_p94 : lw_okq (⟨"DominoChainsModel", "position", "()I"⟩, 17) := ⟨⟨by decide +kernel, by decide +kernel⟩, List.mem_of_getElem? (i := 1361) (by decide +kernel), List.mem_of_getElem? (i := 1819) (by decide +kernel), List.mem_of_getElem? (i := 1820) (by decide +kernel)⟩
theorem lw_p95 : lw_okq (⟨"DominoChainsModel", "optimalOf", "(Z)I"⟩, 17) := ⟨⟨by decide +kernel, by decide +kernel⟩, List.mem_of_getElem? (i := 1361) (by decide +kernel), List.mem_of_getElem? (i := 1823) (by decide +kernel), List.mem_of_getElem? (i := 1824) (by decide +kernel)⟩
def lw_privs_6 : List (MethodName × Nat) := [(⟨"DominoChainsModel", "isTile", "(II)Z"⟩, 17), (⟨"DominoChainsModel", "tileOf", "(II)I"⟩, 17), (⟨"DominoChainsModel", "sumOf", "(I)I"⟩, 17), (⟨"DominoChainsModel", "moves", "()I"⟩, 17), (⟨"DominoChainsModel", "isMove", "(I)Z"⟩, 17), (⟨"DominoChainsModel", "moveAt", "(I)I"⟩, 17), (⟨"DominoChainsModel", "greedy", "()I"⟩, 17), (⟨"DominoChainsModel", "greatestOf", "(I)I"⟩, 17), (⟨"DominoChainsModel", "lowestOf", "(I)I"⟩, 17), (⟨"DominoChainsModel", "forgets", "()V"⟩, 17), (⟨"DominoChainsModel", "valueOf", "(I)I"⟩, 17), (⟨"DominoChainsModel", "burnValue", "(I)I"⟩, 17), (⟨"DominoChainsModel", "optimal", "(Z)I"⟩, 17), (⟨"DominoChainsModel", "valuePlace", "(Z)I"⟩, 17), (⟨"DominoChainsModel", "position", "()I"⟩, 17), (⟨"DominoChainsModel", "optimalOf", "(Z)I"⟩, 17)]
theorem lw_r6 : ∀ q ∈ lw_privs_6, lw_okq q := List.forall_mem_cons.mpr ⟨lw_p80, List.forall_mem_cons.mpr ⟨lw_p81, List.forall_mem_cons.mpr ⟨lw_p82, List.forall_mem_cons.mpr ⟨lw_p83, List.forall_mem_cons.mpr ⟨lw_p84, List.forall_mem_cons.mpr ⟨lw_p85, List.forall_mem_cons.mpr ⟨lw_p86, List.forall_mem_cons.mpr ⟨lw_p87, List.forall_mem_cons.mpr ⟨lw_p88, List.forall_mem_cons.mpr ⟨lw_p89, List.forall_mem_cons.mpr ⟨lw_p90, List.forall_mem_cons.mpr ⟨lw_p91, List.forall_mem_cons.mpr ⟨lw_p92, List.forall_mem_cons.mpr ⟨lw_p93, List.forall_mem_cons.mpr ⟨lw_p94, List.forall_mem_cons.mpr ⟨lw_p95, fun _ h => absurd h List.not_mem_nil⟩⟩⟩⟩⟩⟩⟩⟩⟩⟩⟩⟩⟩⟩⟩⟩
theorem lw_p96 : lw_okq (⟨"DominoChainsModel", "putsBack", "(I)V"⟩, 17) := ⟨⟨by decide +kernel, by decide +kernel⟩, List.mem_of_getElem? (i := 1361) (by decide +kernel), List.mem_of_getElem? (i := 1828) (by decide +kernel), List.mem_of_getElem? (i := 1829) (by decide +kernel)⟩
theorem lw_p97 : lw_okq (⟨"DominoChainsModel", "optimalNow", "()I"⟩, 17) := ⟨⟨by decide +kernel, by decide +kernel⟩, List.mem_of_getElem? (i := 1361) (by decide +kernel), List.mem_of_getElem? (i := 1836) (by decide +kernel), List.mem_of_getElem? (i := 1837) (by decide +kernel)⟩
theorem lw_p98 : lw_okq (⟨"DominoChainsModel", "firstOptimal", "()I"⟩, 17) := ⟨⟨by decide +kernel, by decide +kernel⟩, List.mem_of_getElem? (i := 1361) (by decide +kernel), List.mem_of_getElem? (i := 1848) (by decide +kernel), List.mem_of_getElem? (i := 1849) (by decide +kernel)⟩
theorem lw_p99 : lw_okq (⟨"DominoChainsModel", "manyOptimal", "()I"⟩, 17) := ⟨⟨by decide +kernel, by decide +kernel⟩, List.mem_of_getElem? (i := 1361) (by decide +kernel), List.mem_of_getElem? (i := 1856) (by decide +kernel), List.mem_of_getElem? (i := 1857) (by decide +kernel)⟩
theorem lw_p100 : lw_okq (⟨"DominoChainsModel", "tries", "()V"⟩, 17) := ⟨⟨by decide +kernel, by decide +kernel⟩, List.mem_of_getElem? (i := 1361) (by decide +kernel), List.mem_of_getElem? (i := 1868) (by decide +kernel), List.mem_of_getElem? (i := 1869) (by decide +kernel)⟩
theorem lw_p101 : lw_okq (⟨"DominoChainsModel", "goesAlong", "(I)I"⟩, 17) := ⟨⟨by decide +kernel, by decide +kernel⟩, List.mem_of_getElem? (i := 1361) (by decide +kernel), List.mem_of_getElem? (i := 1872) (by decide +kernel), List.mem_of_getElem? (i := 1873) (by decide +kernel)⟩
theorem lw_p102 : lw_okq (⟨"DominoChainsModel", "againstGreedy", "(Z)I"⟩, 17) := ⟨⟨by decide +kernel, by decide +kernel⟩, List.mem_of_getElem? (i := 1361) (by decide +kernel), List.mem_of_getElem? (i := 1900) (by decide +kernel), List.mem_of_getElem? (i := 1901) (by decide +kernel)⟩
theorem lw_p103 : lw_okq (⟨"DominoChainsModel", "behindGreedy", "()I"⟩, 17) := ⟨⟨by decide +kernel, by decide +kernel⟩, List.mem_of_getElem? (i := 1361) (by decide +kernel), List.mem_of_getElem? (i := 1904) (by decide +kernel), List.mem_of_getElem? (i := 1905) (by decide +kernel)⟩
theorem lw_p104 : lw_okq (⟨"DominoChainsModel", "records", "()V"⟩, 17) := ⟨⟨by decide +kernel, by decide +kernel⟩, List.mem_of_getElem? (i := 1361) (by decide +kernel), List.mem_of_getElem? (i := 1916) (by decide +kernel), List.mem_of_getElem? (i := 1917) (by decide +kernel)⟩
theorem lw_p105 : lw_okq (⟨"DominoChainsModel", "writes", "(I)V"⟩, 17) := ⟨⟨by decide +kernel, by decide +kernel⟩, List.mem_of_getElem? (i := 1361) (by decide +kernel), List.mem_of_getElem? (i := 1948) (by decide +kernel), List.mem_of_getElem? (i := 1949) (by decide +kernel)⟩
theorem lw_p106 : lw_okq (⟨"DominoChainsModel", "writesLog", "(I)V"⟩, 17) := ⟨⟨by decide +kernel, by decide +kernel⟩, List.mem_of_getElem? (i := 1361) (by decide +kernel), List.mem_of_getElem? (i := 1956) (by decide +kernel), List.mem_of_getElem? (i := 1957) (by decide +kernel)⟩
def lw_privs_7 : List (MethodName × Nat) := [(⟨"DominoChainsModel", "putsBack", "(I)V"⟩, 17), (⟨"DominoChainsModel", "optimalNow", "()I"⟩, 17), (⟨"DominoChainsModel", "firstOptimal", "()I"⟩, 17), (⟨"DominoChainsModel", "manyOptimal", "()I"⟩, 17), (⟨"DominoChainsModel", "tries", "()V"⟩, 17), (⟨"DominoChainsModel", "goesAlong", "(I)I"⟩, 17), (⟨"DominoChainsModel", "againstGreedy", "(Z)I"⟩, 17), (⟨"DominoChainsModel", "behindGreedy", "()I"⟩, 17), (⟨"DominoChainsModel", "records", "()V"⟩, 17), (⟨"DominoChainsModel", "writes", "(I)V"⟩, 17), (⟨"DominoChainsModel", "writesLog", "(I)V"⟩, 17)]
theorem lw_r7 : ∀ q ∈ lw_privs_7, lw_okq q := List.forall_mem_cons.mpr ⟨lw_p96, List.forall_mem_cons.mpr ⟨lw_p97, List.forall_mem_cons.mpr ⟨lw_p98, List.forall_mem_cons.mpr ⟨lw_p99, List.forall_mem_cons.mpr ⟨lw_p100, List.forall_mem_cons.mpr ⟨lw_p101, List.forall_mem_cons.mpr ⟨lw_p102, List.forall_mem_cons.mpr ⟨lw_p103, List.forall_mem_cons.mpr ⟨lw_p104, List.forall_mem_cons.mpr ⟨lw_p105, List.forall_mem_cons.mpr ⟨lw_p106, fun _ h => absurd h List.not_mem_nil⟩⟩⟩⟩⟩⟩⟩⟩⟩⟩⟩
def lw_privs : List (MethodName × Nat) := lw_privs_1 ++ (lw_privs_2 ++ (lw_privs_3 ++ (lw_privs_4 ++ (lw_privs_5 ++ (lw_privs_6 ++ (lw_privs_7))))))
def lw_tbl : List Cond := k2_sels lw_privs ++ tables_1
theorem lw_privs_ok : ∀ q ∈ lw_privs, lw_okq q := by
  show ∀ q ∈ lw_privs_1 ++ (lw_privs_2 ++ (lw_privs_3 ++ (lw_privs_4 ++ (lw_privs_5 ++ (lw_privs_6 ++ (lw_privs_7)))))), lw_okq q
  exact List.forall_mem_append.mpr ⟨lw_r1, List.forall_mem_append.mpr ⟨lw_r2, List.forall_mem_append.mpr ⟨lw_r3, List.forall_mem_append.mpr ⟨lw_r4, List.forall_mem_append.mpr ⟨lw_r5, List.forall_mem_append.mpr ⟨lw_r6, lw_r7⟩⟩⟩⟩⟩⟩
/-- the streams that the claim lets the run draw from -/
abbrev lw_cs : List Choice := [Jvm.Choice.named "NaN.bits"]
theorem lw_bits : nanBits ∈ lw_cs := by first | decide | exact List.mem_cons_self | simp [lw_cs, nanBits]

/-! ===== BEGIN words of one list among another's, by their places ===== -/
theorem goodIn_r {big : List Cond} (ws : List Cond) (ps : List Nat) (hp : ws = ps.filterMap (fun i => big[i]?)) (h : ws.all goodWord = true) : GoodIn big ws := by
  intro w hw
  have h1 := List.all_eq_true.mp h w hw
  rw [hp] at hw
  obtain ⟨i, -, hi⟩ := List.mem_filterMap.mp hw
  have hm : w ∈ big := by first | exact List.mem_of_getElem? hi | exact List.getElem?_mem hi
  exact ⟨hm, good_of_word h1⟩
theorem goodIn_app {big a b : List Cond} (ha : GoodIn big a) (hb : GoodIn big b) : GoodIn big (a ++ b) := fun w h => (List.mem_append.mp h).elim (ha w) (hb w)
theorem goodIn_ca {big a b : List Cond} {c : Cond} (ha : GoodIn big (c :: a)) (hb : GoodIn big b) : GoodIn big (c :: (a ++ b)) := fun w h => (List.mem_cons.mp h).elim (fun e => ha w (List.mem_cons.mpr (Or.inl e))) (fun h => (List.mem_append.mp h).elim (fun h => ha w (List.mem_cons.mpr (Or.inr h))) (hb w))
theorem goodIn_sub {big ws : List Cond} (hm : ∀ w ∈ ws, w ∈ big) (h : ws.all goodWord = true) : GoodIn big ws := fun w hw => ⟨hm w hw, good_of_word (List.all_eq_true.mp h w hw)⟩
/-! ===== END ===== -/

/-! ===== BEGIN exceptions that leave a method, and their catching by the caller (launches without stack traces) ===== -/
section VXA
/-! The laws vx_back, vx_callV, vx_callS, vx_callSW, vx_throw0, vx_throwS follow proofs of the library, with one case more: JvmDerived/Free/Laws.lean (Back.of_free), Shelf42/LK1.lean (callV, callS), Shelf/KitTraced.lean (throwNew0V, throwNewS). -/
/-- where a method has thrown q: the class by its name, the cell, what was written, the world -/
def vx_T (XC : String → State → State → Prop) (st : State) (q : Addr) (t : State) (mc ms : Nat) (free : Addr → Prop) : Prop :=
  ∃ (E : String) (ce : Cell) (L : List Loc), XC E st t ∧ t.heap[q]? = some ce ∧ ce.vm = .none ∧ st.vm.findClass E = some ce.cls ∧ st.WarmedH t.vm ∧ st.sameButNew ({ t with vm := st.vm } : State) L mc ms ∧ ∀ z ∈ L, free z.base
def vx_Q (Qc : Array Value → State → Outcome → State → Prop) (XC : String → State → State → Prop) (mc ms : Nat) (free : Addr → Prop) : Array Value → State → Outcome → State → Prop := fun a st o t =>
  (Qc a st o t ∧ ∃ L, FrameEnd st o t L mc ms ∧ ∀ q ∈ L, free q.base) ∨ ∃ q, o = .threw q ∧ vx_T XC st q t mc ms free
/-- a callee that returns or throws -/
def vx_Met (l : Launch) (y : MethodName) (ws : List Cond) (rm : Room) (Pc : Array Value → State → Prop) (Qc : Array Value → State → Outcome → State → Prop) (XC : String → State → State → Prop) (mc ms : Nat) (free : Addr → Prop) : Prop :=
  MetFree l y (headSpec ws rm) Pc (fun _ _ _ _ _ => True) (vx_Q Qc XC mc ms free)
def vx_Post (XC : String → State → State → Prop) (mc ms : Nat) (free : Addr → Prop) : Pt → Array Value → Addr → Pt → Prop := fun A a q B =>
  ∃ (g : JFrame) (mk : MethodId) (t : State) (L : List Loc) (E : String) (ce : Cell), B.U.heap = t.heap ∧ B.U.vm = t.vm ∧ XC E (A.U.calling g mk a) t ∧ t.heap[q]? = some ce ∧ ce.vm = .none ∧ A.U.vm.findClass E = some ce.cls ∧ B.locs = A.locs ++ L ∧ (∀ z ∈ L, free z.base) ∧ B.cells = A.cells + mc ∧ B.slots = A.slots + ms
def vx_Back (l : Launch) (R : Room) (p : Program) (e : Env) (below : List Frame) (s : State) (sargs : Array Value) (y : MethodName) (len W9 : Nat)
    (Pre : Pt → Array Value → Prop) (Post : Pt → Array Value → Option Value → Pt → Prop) (PostX : Pt → Array Value → Addr → Pt → Prop) : Prop :=
  ∀ (m : MethodId) (meth : Method) (c : Code) (A : Pt) (g : JFrame) (ig : Instr) (mk : MethodId) (a : Array Value),
    Stand p l e R s m sargs below meth c A.U A.locs A.cells A.slots → g.method = m → g.locals.size = c.maxLocals → decode c.code g.pc = .ok (ig, len) →
    2 * g.monitorRoom + (g.stack.map fun v => v.category).sum ≤ W9 → A.U.methodNamed? y = some mk → Pre A a →
    (∃ (v : Option Value) (B : Pt), Stand p l e R s m sargs below meth c B.U B.locs B.cells B.slots ∧ Post A a v B ∧
      Steps p.tables e below (doInvoke e (A.U.setTop g) [] mk a).1 (B.U.setTop { g with pc := g.pc + len, stack := v.toList ++ g.stack })) ∨
    (∃ (q : Addr) (B : Pt), Stand p l e R s m sargs below meth c B.U B.locs B.cells B.slots ∧ PostX A a q B ∧
      Steps p.tables e below (doInvoke e (A.U.setTop g) [] mk a).1 ((B.U.setTop g).pushFrame (.throwing q)))
section Payer
variable {l : Launch} {R : Room} {p : Program} {e : Env} {below : List Frame} {s : State} {sargs : Array Value} {y : MethodName} {len W9 : Nat}
theorem vx_back {ws : List Cond} {rm : Room} {Pc : Array Value → State → Prop} {Qc : Array Value → State → Outcome → State → Prop} {XC : String → State → State → Prop} {mc ms : Nat} {free : Addr → Prop} {bytes : ByteArray} {maxL : Nat} {ret : Option FieldType}
    (hM : vx_Met l y ws rm Pc Qc XC mc ms free) (hblind : FrameBlind Pc) (hrc : rm.cells = mc) (hrs : rm.slots = ms)
    (hframes : rm.frames + 1 ≤ R.frames) (hlocals : W9 + (maxL + 11) + rm.locals ≤ R.locals)
    (hws : ∀ w ∈ ws, ∀ a' U, s.WarmedH U.vm → w.before a' U = true) (hcode : Cond.code y bytes maxL ret ∈ ws) (hinit : ∀ a' U, s.WarmedH U.vm → (Cond.initialized y.cls).before a' U = true) :
    vx_Back l R p e below s sargs y len W9 (PreOf R mc ms Pc) (PostOf Qc mc ms free) (vx_Post XC mc ms free) := by
  intro m meth c A g ig mk a X hg hsize hdg hW hn hp
  have h1 : (headSpec ws rm).pre.before a A.U = true := atoms_intro fun w hw => hws w hw _ _ X.warmed
  have h2 : (Cond.code y bytes maxL ret).before a A.U = true := hws _ hcode _ _ X.warmed
  have h3 : (Cond.initialized y.cls).before a A.U = true := hinit _ _ X.warmed
  have h4 : A.cells + (headSpec ws rm).room.cells ≤ R.cells := by rw [show (headSpec ws rm).room.cells = mc from hrc]; exact hp.1
  have h5 : A.slots + (headSpec ws rm).room.slots ≤ R.slots := by rw [show (headSpec ws rm).room.slots = ms from hrs]; exact hp.2.1
  have hPc : Pc a (A.U.calling g mk a) := hblind _ _ _ _ hp.2.2
  obtain ⟨U, Ls, c0, s0⟩ := A
  dsimp only [Pt.U, Pt.locs, Pt.cells, Pt.slots] at h1 h2 h3 h4 h5 X hn hPc ⊢
  obtain ⟨methY, cY, hmY, hcY, -, hlY, -, -, -, -⟩ := Cond.code_spec hn h2
  obtain ⟨kY, hkY, -⟩ := className_of_methodNamed hn
  have hinitY : kY.init = .initialized := Cond.initialized_spec (findClass_of_methodNamed hn) hkY h3
  have h : At U g.method c below := by rw [hg]; exact X.here
  have hlocals9 : W9 + (maxL + 11) + (headSpec ws rm).room.locals ≤ R.locals := hlocals
  have happ : (headSpec ws rm).appliesLoose y e.platform (U.calling g mk a) = true :=
    Spec.appliesLoose_calling (g := g) h hdg hn hkY hinitY
      (X.room_calling (g := g) (R' := (headSpec ws rm).room) hsize hmY hcY hframes (by rw [hlY]; omega) h4 h5) h1
  obtain ⟨mid, hmid⟩ := h.above
  have hfr : (U.setTop g).frames = (.java g :: mid) ++ below := by rw [State.frames_setTop' g h.top, hmid]; rfl
  obtain ⟨o, s₂, hsteps, -, hend, hq⟩ := Steps.callFree hM p X.admits X.cas X.clock (acts := []) hfr happ hPc trivial
  have hq' : vx_Q Qc XC mc ms free a (U.calling g mk a) o s₂ := hq
  rw [State.frames_setTop' g h.top] at hend
  obtain ⟨g₀, hg0⟩ := Option.isSome_iff_exists.mp h.top
  obtain ⟨r, hr⟩ := State.topJava?_eq_some.mp hg0
  have hr' : (({ U with heap := s₂.heap, slotsUsed := s₂.slotsUsed } : State).setVm s₂.vm).frames = .java g₀ :: r := hr
  rcases hq' with ⟨hqc, L, hfe, hL⟩ | ⟨q, rfl, E, ce, L, hx, hce, hcv, hcl, hW₂, hsm, hL⟩
  · obtain ⟨⟨v, rfl⟩, hW₂, e2, q2, q3, q4, q5, q6⟩ := id hfe
    have e3 : s₂ = ({ (U.calling g mk a).setFrames s₂.frames with heap := s₂.heap, slotsUsed := s₂.slotsUsed } : State).setVm s₂.vm := by
      have : s₂ = ({ s₂ with vm := (U.calling g mk a).vm } : State).setVm s₂.vm := rfl
      rw [e2] at this
      exact this
    obtain ⟨c₂, i₂, len₂, hc₂, hd₂, hf₂⟩ := hend
    have hW' : U.WarmedH s₂.vm := hW₂
    have hcc : c₂ = c := by
      have h1 : s₂.code? g.method = U.code? g.method := by
        rw [State.code?_eq, State.code?_eq, hW'.alike.method?]
      exact Option.some.inj (hc₂.symm.trans (h1.trans h.code))
    subst hcc
    have hlen : len₂ = len := by rw [hdg] at hd₂; cases hd₂; rfl
    subst hlen
    have hs₂ : s₂ = (({ U with heap := s₂.heap, slotsUsed := s₂.slotsUsed } : State).setVm s₂.vm).setTop { g with pc := g.pc + len₂, stack := v.toList ++ g.stack } := by
      refine e3.trans ?_
      rw [hf₂, State.calling_eq h.top, State.setFrames_setFrames, State.setTop_of_frames _ hr', hr]
      rfl
    have hsame : U.sameButNew ({ U with heap := s₂.heap, slotsUsed := s₂.slotsUsed } : State) L mc ms := by
      refine ⟨?_, q2, q3, q4, q5, q6⟩
      obtain ⟨t, ht, -⟩ := State.frames_cons hr
      show ({ U with heap := s₂.heap, slotsUsed := s₂.slotsUsed } : State) = { U.setFrames U.frames with heap := s₂.heap, slotsUsed := s₂.slotsUsed }
      rw [State.setFrames_self ht]
    subst hg
    refine Or.inl ⟨v, ⟨(({ U with heap := s₂.heap, slotsUsed := s₂.slotsUsed } : State).setVm s₂.vm), Ls ++ L, c0 + mc, s0 + ms⟩,
      ⟨X.admits, X.cas, X.clock, X.frames, X.room, X.hears, X.method, X.code, (X.here.setHeapUsed s₂.heap s₂.slotsUsed).setVm hW'.alike, X.tail, State.WarmedH.trans X.warmed hW', X.limits, X.bytes, X.same.trans (hsame.setVm s.vm)⟩,
      ⟨g, mk, s₂, L, rfl, rfl, hqc, rfl, hL, rfl, rfl⟩, ?_⟩
    show Steps p.tables e below _ ((({ U with heap := s₂.heap, slotsUsed := s₂.slotsUsed } : State).setVm s₂.vm).setTop { g with pc := g.pc + len₂, stack := v.toList ++ g.stack })
    rw [← hs₂]
    exact hsteps
  · obtain ⟨e2, q2, q3, q4, q5, q6⟩ := id hsm
    have e3 : s₂ = ({ (U.calling g mk a).setFrames s₂.frames with heap := s₂.heap, slotsUsed := s₂.slotsUsed } : State).setVm s₂.vm := by
      have : s₂ = ({ s₂ with vm := (U.calling g mk a).vm } : State).setVm s₂.vm := rfl
      rw [e2] at this
      exact this
    have hf₂ : s₂.frames = .throwing q :: .java g :: U.frames.tail := hend
    have hW' : U.WarmedH s₂.vm := hW₂
    have hs₂ : s₂ = ((({ U with heap := s₂.heap, slotsUsed := s₂.slotsUsed } : State).setVm s₂.vm).setTop g).pushFrame (.throwing q) := by
      refine e3.trans ?_
      rw [hf₂, State.calling_eq h.top, State.setFrames_setFrames, State.pushFrame, State.frames_setTop _ hr', State.setTop_of_frames _ hr', State.setFrames_setFrames, hr]
      rfl
    have hsame : U.sameButNew ({ U with heap := s₂.heap, slotsUsed := s₂.slotsUsed } : State) L mc ms := by
      refine ⟨?_, q2, q3, q4, q5, q6⟩
      obtain ⟨t, ht, -⟩ := State.frames_cons hr
      show ({ U with heap := s₂.heap, slotsUsed := s₂.slotsUsed } : State) = { U.setFrames U.frames with heap := s₂.heap, slotsUsed := s₂.slotsUsed }
      rw [State.setFrames_self ht]
    subst hg
    refine Or.inr ⟨q, ⟨(({ U with heap := s₂.heap, slotsUsed := s₂.slotsUsed } : State).setVm s₂.vm), Ls ++ L, c0 + mc, s0 + ms⟩,
      ⟨X.admits, X.cas, X.clock, X.frames, X.room, X.hears, X.method, X.code, (X.here.setHeapUsed s₂.heap s₂.slotsUsed).setVm hW'.alike, X.tail, State.WarmedH.trans X.warmed hW', X.limits, X.bytes, X.same.trans (hsame.setVm s.vm)⟩,
      ⟨g, mk, s₂, L, E, ce, rfl, rfl, hx, hce, hcv, hcl, rfl, hL, rfl, rfl⟩, ?_⟩
    show Steps p.tables e below _ (((({ U with heap := s₂.heap, slotsUsed := s₂.slotsUsed } : State).setVm s₂.vm).setTop g).pushFrame (.throwing q))
    rw [← hs₂]
    exact hsteps
end Payer
section Calls
variable {p : Program} {l : Launch} {e : Env} {R : Room} {s : State} {m : MethodId} {args : Array Value} {below : List Frame} {meth : Method} {c : Code} {T : State} {locs : List Loc} {cells slots : Nat}
theorem vx_callV (X : Stand p l e R s m args below meth c T locs cells slots) (hexec : p.tables.exec = Jvm.exec) {own C : String} {index : Nat} {y : MethodName} {bytes : ByteArray} {maxL : Nat} {ret : Option FieldType}
    (hown : s.vm.findClass own = some m.cls) (hlink : (Cond.methodLink own index y).before args s = true) (hinst : (Cond.instanceMethod y).before args s = true) (hsel : (Cond.selects C y y).before args s = true)
    (hcode : (Cond.code y bytes maxL ret).before args s = true) (hy : y.cls ≠ "java/lang/invoke/MethodHandle" ∧ y.cls ≠ "java/lang/invoke/VarHandle")
    {W9 : Nat} {Pre : Pt → Array Value → Prop} {Post : Pt → Array Value → Option Value → Pt → Prop} {PostX : Pt → Array Value → Addr → Pt → Prop} (hK : vx_Back l R p e below s args y 3 W9 Pre Post PostX)
    {b : Addr} {cellB : Cell} (hcell : T.heap[b]? = some cellB) (hobj : cellB.vm.isStatics = false) (hcls : s.vm.findClass C = some cellB.cls)
    {g : JFrame} (hg : g.method = m) (hsize : g.locals.size = c.maxLocals) {argsL rest : List Value} (hlen : ∀ sig, parseMethodDescriptor y.desc = some sig → argsL.length = sig.parameters.length)
    (hstack : g.stack = argsL.reverse ++ .ref b :: rest) (hW : 2 * g.monitorRoom + (rest.map fun v => v.category).sum ≤ W9) (hdg : decode c.code g.pc = .ok (.invokevirtual index, 3))
    (hpre : ∀ vm₁, s.WarmedH vm₁ → Pre ⟨T.setVm vm₁, locs, cells, slots⟩ (Value.ref b :: argsL).toArray) :
    (∃ (v : Option Value) (vm₁ : Vm) (B : Pt), s.WarmedH vm₁ ∧ Stand p l e R s m args below meth c B.U B.locs B.cells B.slots ∧ Post ⟨T.setVm vm₁, locs, cells, slots⟩ (Value.ref b :: argsL).toArray v B ∧
      ∀ target, Steps p.tables e below (B.U.setTop { g with pc := g.pc + 3, stack := v.toList ++ rest }) target → Steps p.tables e below (T.setTop g) target) ∨
    (∃ (q : Addr) (vm₁ : Vm) (B : Pt), s.WarmedH vm₁ ∧ Stand p l e R s m args below meth c B.U B.locs B.cells B.slots ∧ PostX ⟨T.setVm vm₁, locs, cells, slots⟩ (Value.ref b :: argsL).toArray q B ∧
      Steps p.tables e below (T.setTop g) ((B.U.setTop { g with stack := rest }).pushFrame (.throwing q))) := by
  obtain ⟨mk, methM, hnamed, hmethM, hstM, habM⟩ := Cond.instanceMethod_spec hinst
  obtain ⟨methM', cM, hmethM', -, -, -, -, -, -, hsigM⟩ := Cond.code_spec hnamed hcode
  cases hmethM.symm.trans hmethM'
  obtain ⟨c2, r2, m2, q1, q2, q3, q4, kP, hkP, hkPi⟩ := Cond.selects_spec hsel
  cases hcls.symm.trans q1
  cases (State.methodFound?_of_named hnamed hy).symm.trans q2
  cases hnamed.symm.trans q3
  have hselP : selectMethod e.platform s.vm cellB.cls mk = .method mk := by rw [Launch.admits_selectMethod X.admits]; exact q4
  obtain ⟨vm₁, X₁, hstep₁⟩ := X.invokevirtual hexec hown hlink hnamed hmethM hstM hkP hkPi hy (a := b) (cell := cellB) hcell
    (fun z h => by rw [h] at hobj; cases hobj) hselP hmethM habM hkP hkPi (g := g) hg (argsL := argsL) (rest := rest) (hlen _ hsigM) hstack hdg
  rcases hK m meth c ⟨T.setVm vm₁, locs, cells, slots⟩ { g with stack := rest } (.invokevirtual index) mk (Value.ref b :: argsL).toArray X₁ hg hsize hdg hW (X₁.named hnamed) (hpre vm₁ X₁.warmed) with ⟨v, B, X', hpost, hsteps⟩ | ⟨q, B, X', hpost, hsteps⟩
  · exact Or.inl ⟨v, vm₁, B, X₁.warmed, X', hpost, fun target h => hstep₁ _ fun acts => by rw [doInvoke_state]; exact hsteps.trans h⟩
  · exact Or.inr ⟨q, vm₁, B, X₁.warmed, X', hpost, hstep₁ _ fun acts => by rw [doInvoke_state]; exact hsteps⟩
theorem vx_callS (X : Stand p l e R s m args below meth c T locs cells slots) (hexec : p.tables.exec = Jvm.exec) {own : String} {index : Nat} {y : MethodName} {bytes : ByteArray} {maxL : Nat} {ret : Option FieldType}
    (hown : s.vm.findClass own = some m.cls) (hlink : (Cond.methodLink own index y).before args s = true) (hstat : (Cond.static y).before args s = true) (hinit : (Cond.initialized y.cls).before args s = true)
    (hcode : (Cond.code y bytes maxL ret).before args s = true) (hy : y.cls ≠ "java/lang/invoke/MethodHandle" ∧ y.cls ≠ "java/lang/invoke/VarHandle")
    {W9 : Nat} {Pre : Pt → Array Value → Prop} {Post : Pt → Array Value → Option Value → Pt → Prop} {PostX : Pt → Array Value → Addr → Pt → Prop} (hK : vx_Back l R p e below s args y 3 W9 Pre Post PostX)
    {g : JFrame} (hg : g.method = m) (hsize : g.locals.size = c.maxLocals) {argsL rest : List Value} (hlen : ∀ sig, parseMethodDescriptor y.desc = some sig → argsL.length = sig.parameters.length)
    (hstack : g.stack = argsL.reverse ++ rest) (hW : 2 * g.monitorRoom + (rest.map fun v => v.category).sum ≤ W9) (hdg : decode c.code g.pc = .ok (.invokestatic index, 3))
    (hpre : ∀ vm₁, s.WarmedH vm₁ → Pre ⟨T.setVm vm₁, locs, cells, slots⟩ argsL.toArray) :
    (∃ (v : Option Value) (vm₁ : Vm) (B : Pt), s.WarmedH vm₁ ∧ Stand p l e R s m args below meth c B.U B.locs B.cells B.slots ∧ Post ⟨T.setVm vm₁, locs, cells, slots⟩ argsL.toArray v B ∧
      ∀ target, Steps p.tables e below (B.U.setTop { g with pc := g.pc + 3, stack := v.toList ++ rest }) target → Steps p.tables e below (T.setTop g) target) ∨
    (∃ (q : Addr) (vm₁ : Vm) (B : Pt), s.WarmedH vm₁ ∧ Stand p l e R s m args below meth c B.U B.locs B.cells B.slots ∧ PostX ⟨T.setVm vm₁, locs, cells, slots⟩ argsL.toArray q B ∧
      Steps p.tables e below (T.setTop g) ((B.U.setTop { g with stack := rest }).pushFrame (.throwing q))) := by
  obtain ⟨mk, hnamed⟩ := Cond.code_named hcode
  obtain ⟨methM, cM, hmethM, -, -, -, -, -, -, hsigM⟩ := Cond.code_spec hnamed hcode
  have hstatic : methM.isStatic = true := Cond.static_spec hnamed hmethM hstat
  obtain ⟨kP, hkP, -⟩ := className_of_methodNamed hnamed
  have hinitP : kP.init = .initialized := Cond.initialized_spec (findClass_of_methodNamed hnamed) hkP hinit
  obtain ⟨vm₁, X₁, hstep₁⟩ := X.invokestatic hexec hown hlink hnamed hmethM hstatic hkP hinitP hy (g := g) hg (argsL := argsL) (rest := rest) (hlen _ hsigM) hstack hdg
  rcases hK m meth c ⟨T.setVm vm₁, locs, cells, slots⟩ { g with stack := rest } (.invokestatic index) mk argsL.toArray X₁ hg hsize hdg hW (X₁.named hnamed) (hpre vm₁ X₁.warmed) with ⟨v, B, X', hpost, hsteps⟩ | ⟨q, B, X', hpost, hsteps⟩
  · exact Or.inl ⟨v, vm₁, B, X₁.warmed, X', hpost, fun target h => hstep₁ _ fun acts => by rw [doInvoke_state]; exact hsteps.trans h⟩
  · exact Or.inr ⟨q, vm₁, B, X₁.warmed, X', hpost, hstep₁ _ fun acts => by rw [doInvoke_state]; exact hsteps⟩
end Calls
theorem vx_cls {s : State} {T : State} {vm₁ : Vm} {E : String} {k : ClassId} (hW : s.WarmedH vm₁) (h : (T.setVm vm₁).vm.findClass E = some k) : s.vm.findClass E = some k := by
  have h1 : vm₁.findClass E = some k := h
  rw [hW.alike.findClass] at h1
  exact h1
/-- the method's frame g, with q thrown over it -/
def vx_W (p : Program) (l : Launch) (e : Env) (R : Room) (s : State) (m : MethodId) (args : Array Value) (below : List Frame) (meth : Method) (c : Code) (H : Heap) (locs : List Loc) (cells slots : Nat) (Q : State → Prop) (g : JFrame) (q : Addr) : Prop :=
  ∀ T : State, T.heap = H → Stand p l e R s m args below meth c T locs cells slots → ∃ t, Steps p.tables e below ((T.setTop g).pushFrame (.throwing q)) t ∧ Q t
def vx_Run (p : Program) (l : Launch) (e : Env) (R : Room) (s : State) (m : MethodId) (args : Array Value) (below : List Frame) (meth : Method) (c : Code) (H : Heap) (locs : List Loc) (cells slots mc ms : Nat) (g : JFrame) (rest : List Value) (Qa : State → Outcome → State → Prop) (XC : String → State → State → Prop) (free : Addr → Prop) : Prop :=
  ∀ T : State, T.heap = H → Stand p l e R s m args below meth c T locs cells slots →
    (∃ (v : Option Value) (st₀ t T' : State) (L : List Loc), st₀.heap = H ∧ Stand p l e R s m args below meth c T' (locs ++ L) (cells + mc) (slots + ms) ∧ (∀ q ∈ L, free q.base) ∧ T'.heap = t.heap ∧ T'.vm = t.vm ∧ Qa st₀ (.returned v) t ∧
      Goes p e below T g T' { g with pc := g.pc + 3, stack := v.toList ++ rest }) ∨
    (∃ (q : Addr) (st₀ t T' : State) (L : List Loc) (E : String) (ce : Cell), st₀.heap = H ∧ Stand p l e R s m args below meth c T' (locs ++ L) (cells + mc) (slots + ms) ∧ (∀ z ∈ L, free z.base) ∧ T'.heap = t.heap ∧ T'.vm = t.vm ∧ XC E st₀ t ∧ t.heap[q]? = some ce ∧ ce.vm = .none ∧ s.vm.findClass E = some ce.cls ∧
      Steps p.tables e below (T.setTop g) ((T'.setTop { g with stack := rest }).pushFrame (.throwing q)))
def vx_X {S : Type} (px : S → Prop) (B : String → S → State → Prop) (A : Nat → Prop) : String → State → State → Prop := fun E st t => ∃ u : S, px u ∧ B E u t ∧ va_F A st t
section Runs
variable {p : Program} {l : Launch} {e : Env} {R : Room} {s : State} {m : MethodId} {args : Array Value} {below : List Frame} {meth : Method} {c : Code} {H : Heap} {locs : List Loc} {cells slots : Nat}
variable {y : MethodName} {bytes cc : ByteArray} {maxL nL mc ms n index : Nat} {ret : Option FieldType} {ws : List Cond} {rm : Room} {Pc : Array Value → State → Prop} {Qc : Array Value → State → Outcome → State → Prop} {XC : String → State → State → Prop} {free : Addr → Prop} {Ts : List Cond} {own C : String} {b : Addr} {As rest : List Value} {g : JFrame}
theorem vx_callBack (cb : CallB R s args own index y bytes maxL ret ws rm mc ms n) (hM : vx_Met l y ws rm Pc Qc XC mc ms free) (hbl : FrameBlind Pc) : vx_Back l R p e below s args y 3 8 (PreOf R mc ms Pc) (PostOf Qc mc ms free) (vx_Post XC mc ms free) := by
  obtain ⟨hrc, hrs, hfr, hlo, hws, hcw, -, hini, -⟩ := cb
  exact vx_back (bytes := bytes) (maxL := maxL) (ret := ret) hM hbl hrc hrs hfr hlo hws hcw (fun a' U hW => word_at hW (Or.inl (by first | rfl | simp [Cond.onTables, Cond.keeps, Cond.steady])) hini)
theorem vx_runV (S : CallFix p m c cc nL s args Ts own) (hM : vx_Met l y ws rm Pc Qc XC mc ms free) (cw : CallW R s args own C index y bytes maxL ret ws rm mc ms n) (hp : PreV s H C b Pc As)
    (hg : g.method = m) (hn : As.length = n) (hsize : g.locals.size = nL) (hstack : g.stack = As.reverse ++ .ref b :: rest) (hW : 2 * g.monitorRoom + (rest.map fun v => v.category).sum ≤ 8) (hdg : decode cc g.pc = .ok (.invokevirtual index, 3)) (hf : cells + mc ≤ R.cells ∧ slots + ms ≤ R.slots) :
    vx_Run p l e R s m args below meth c H locs cells slots mc ms g rest (Qc (Value.ref b :: As).toArray) XC free := by
  have hK : vx_Back l R p e below s args y 3 8 (PreOf R mc ms Pc) (PostOf Qc mc ms free) (vx_Post XC mc ms free) := vx_callBack cw.1 hM hp.1
  obtain ⟨⟨-, -, -, -, -, -, hcode, -, hy, hlen, hl⟩, hin, hse⟩ := cw
  obtain ⟨hx, hb, hml, ho, -⟩ := S
  obtain ⟨-, ⟨cellB, hcB, hoB, hclB⟩, hPc⟩ := hp
  intro T hT X
  rcases vx_callV X hx (C := C) (bytes := bytes) (maxL := maxL) (ret := ret) ho hl hin hse hcode hy hK (by rw [hT]; exact hcB) hoB hclB hg (hsize.trans hml.symm) (argsL := As) (rest := rest) (fun sig h => hn.trans (hlen sig h)) hstack hW (by rw [hb]; exact hdg)
    (fun vm₁ hW₁ => ⟨hf.1, hf.2, hPc (T.setVm vm₁) hT hW₁⟩) with ⟨v, vm₁, ⟨U', l2, c2, s2⟩, hW₁, X', ⟨g', mk, t, L, e1, e2, hq, h1, hL, h2, h3⟩, st⟩ | ⟨q, vm₁, ⟨U', l2, c2, s2⟩, hW₁, X', ⟨g', mk, t, L, E, ce, e1, e2, hq, hce, hcv, hcl, h1, hL, h2, h3⟩, st⟩
  · dsimp only [Pt.U, Pt.locs, Pt.cells, Pt.slots] at X' e1 e2 h1 h2 h3 st
    subst h1; subst h2; subst h3
    exact Or.inl ⟨v, (T.setVm vm₁).calling g' mk (Value.ref b :: As).toArray, t, U', L, hT, X', hL, e1, e2, hq, st⟩
  · dsimp only [Pt.U, Pt.locs, Pt.cells, Pt.slots] at X' e1 e2 h1 h2 h3 st hcl
    subst h1; subst h2; subst h3
    exact Or.inr ⟨q, (T.setVm vm₁).calling g' mk (Value.ref b :: As).toArray, t, U', L, E, ce, hT, X', hL, e1, e2, hq, hce, hcv, vx_cls hW₁ hcl, st⟩
theorem vx_runS (S : CallFix p m c cc nL s args Ts own) (hM : vx_Met l y ws rm Pc Qc XC mc ms free) (cw : CallB R s args own index y bytes maxL ret ws rm mc ms n ∧ (Cond.static y).before args s = true) (hp : PreS s H Pc As)
    (hg : g.method = m) (hn : As.length = n) (hsize : g.locals.size = nL) (hstack : g.stack = As.reverse ++ rest) (hW : 2 * g.monitorRoom + (rest.map fun v => v.category).sum ≤ 8) (hdg : decode cc g.pc = .ok (.invokestatic index, 3)) (hf : cells + mc ≤ R.cells ∧ slots + ms ≤ R.slots) :
    vx_Run p l e R s m args below meth c H locs cells slots mc ms g rest (Qc As.toArray) XC free := by
  have hK : vx_Back l R p e below s args y 3 8 (PreOf R mc ms Pc) (PostOf Qc mc ms free) (vx_Post XC mc ms free) := vx_callBack cw.1 hM hp.1
  obtain ⟨⟨-, -, -, -, -, -, hcode, hini, hy, hlen, hl⟩, hstt⟩ := cw
  obtain ⟨hx, hb, hml, ho, -⟩ := S
  intro T hT X
  rcases vx_callS X hx (bytes := bytes) (maxL := maxL) (ret := ret) ho hl hstt hini hcode hy hK hg (hsize.trans hml.symm) (argsL := As) (rest := rest) (fun sig h => hn.trans (hlen sig h)) hstack hW (by rw [hb]; exact hdg)
    (fun vm₁ hW₁ => ⟨hf.1, hf.2, hp.2 (T.setVm vm₁) hT hW₁⟩) with ⟨v, vm₁, ⟨U', l2, c2, s2⟩, hW₁, X', ⟨g', mk, t, L, e1, e2, hq, h1, hL, h2, h3⟩, st⟩ | ⟨q, vm₁, ⟨U', l2, c2, s2⟩, hW₁, X', ⟨g', mk, t, L, E, ce, e1, e2, hq, hce, hcv, hcl, h1, hL, h2, h3⟩, st⟩
  · dsimp only [Pt.U, Pt.locs, Pt.cells, Pt.slots] at X' e1 e2 h1 h2 h3 st
    subst h1; subst h2; subst h3
    exact Or.inl ⟨v, (T.setVm vm₁).calling g' mk As.toArray, t, U', L, hT, X', hL, e1, e2, hq, st⟩
  · dsimp only [Pt.U, Pt.locs, Pt.cells, Pt.slots] at X' e1 e2 h1 h2 h3 st hcl
    subst h1; subst h2; subst h3
    exact Or.inr ⟨q, (T.setVm vm₁).calling g' mk As.toArray, t, U', L, E, ce, hT, X', hL, e1, e2, hq, hce, hcv, vx_cls hW₁ hcl, st⟩
end Runs
section Rows
variable {p : Program} {l : Launch} {e : Env} {R : Room} {s : State} {m : MethodId} {args : Array Value} {below : List Frame} {meth : Method} {c : Code} {H : Heap} {locs : List Loc} {cells slots : Nat} {Q : State → Prop}
variable {mc ms : Nat} {free : Addr → Prop} {A0 A1 : Nat → Prop} {H0 : Heap} {a : Array Value} {pc : Nat} {ls : Array Slot} {st0 rest : List Value}
theorem vx_keep {st₀ t T' : State} {L : List Loc} (h0 : st₀.heap = H) (e1 : T'.heap = t.heap) (hS : va_S A0 H0 H locs) (hA : ∀ q, q < H.size → A1 q → A0 q) (hf : ∀ q, free q → A0 q) (hL : ∀ q ∈ L, free q.base) (hF : va_F A1 st₀ t) :
    H.size ≤ T'.heap.size ∧ (∀ q : Nat, q < H.size → ¬ A1 q → T'.heap[q]? = H[q]?) ∧ va_S A0 H0 T'.heap (locs ++ L) := by
  obtain ⟨hz, hk⟩ := hF
  rw [h0] at hz hk
  exact ⟨by rw [e1]; exact hz, fun q h1 h2 => by rw [e1]; exact hk q h1 h2,
    ⟨Nat.le_trans hS.1 (by rw [e1]; exact hz), fun q h1 h2 => by rw [e1, hk q (Nat.lt_of_lt_of_le h1 hS.1) (fun z => h2 (hA q (Nat.lt_of_lt_of_le h1 hS.1) z))]; exact hS.2.1 q h1 h2, fun q hq => by
      rcases List.mem_append.mp hq with h | h
      · exact hS.2.2 q h
      · exact hf _ (hL q h)⟩⟩
theorem vx_calli {S SX : Type} {post : Int32 → S → Prop} {px : SX → Prop} {B : S → State → Prop} {BX : String → SX → State → Prop} {AX : Nat → Prop} (hr : vx_Run p l e R s m args below meth c H locs cells slots mc ms (F0 m pc ls st0) rest (va_Qi post B A1 a) (vx_X px BX AX) free) (hS : va_S A0 H0 H locs) (hA : ∀ q, q < H.size → A1 q → A0 q) (hf : ∀ q, free q → A0 q) (hAX : ∀ q, q < H.size → AX q → A0 q)
    (kx : ∀ (E : String) (ce : Cell) (q9 : Addr) (u : SX) (t : State) (H1 : Heap) (locs1 : List Loc), t.heap = H1 → s.vm.Alike t.vm → px u → BX E u t → H.size ≤ H1.size → (∀ q : Nat, q < H.size → ¬ AX q → H1[q]? = H[q]?) → va_S A0 H0 H1 locs1 → H1[q9]? = some ce → ce.vm = .none → s.vm.findClass E = some ce.cls → vx_W p l e R s m args below meth c H1 locs1 (cells + mc) (slots + ms) Q (F0 m pc ls rest) q9)
    (kk : ∀ (r : Int32) (u : S) (t : State) (H1 : Heap) (locs1 : List Loc), t.heap = H1 → s.vm.Alike t.vm → post r u → B u t → H.size ≤ H1.size → (∀ q : Nat, q < H.size → ¬ A1 q → H1[q]? = H[q]?) → va_S A0 H0 H1 locs1 → W p l e R s m args below meth c H1 locs1 (cells + mc) (slots + ms) Q (F0 m (pc + 3) ls (.int r :: rest))) : W p l e R s m args below meth c H locs cells slots Q (F0 m pc ls st0) := by
  intro T hT X
  rcases hr T hT X with ⟨v, st₀, t, T', L, h0, X', hL, e1, e2, ⟨⟨r, u, hv, hp, hb⟩, hF⟩, st⟩ | ⟨q, st₀, t, T', L, E, ce, h0, X', hL, e1, e2, ⟨u, hp, hb, hF⟩, hce, hcv, hcl, st⟩
  · cases hv
    obtain ⟨k1, k2, k3⟩ := vx_keep h0 e1 hS hA hf hL hF
    obtain ⟨t2, a1, b1⟩ := kk r u t T'.heap (locs ++ L) e1.symm (by rw [← e2]; exact X'.warmed.alike) hp hb k1 k2 k3 T' rfl X'
    exact ⟨t2, st t2 a1, b1⟩
  · obtain ⟨k1, k2, k3⟩ := vx_keep h0 e1 hS hAX hf hL hF
    obtain ⟨t2, a1, b1⟩ := kx E ce q u t T'.heap (locs ++ L) e1.symm (by rw [← e2]; exact X'.warmed.alike) hp hb k1 k2 k3 (by rw [e1]; exact hce) hcv hcl T' rfl X'
    exact ⟨t2, st.trans a1, b1⟩
theorem vx_calll {S SX : Type} {post : Int64 → S → Prop} {px : SX → Prop} {B : S → State → Prop} {BX : String → SX → State → Prop} {AX : Nat → Prop} (hr : vx_Run p l e R s m args below meth c H locs cells slots mc ms (F0 m pc ls st0) rest (va_Ql post B A1 a) (vx_X px BX AX) free) (hS : va_S A0 H0 H locs) (hA : ∀ q, q < H.size → A1 q → A0 q) (hf : ∀ q, free q → A0 q) (hAX : ∀ q, q < H.size → AX q → A0 q)
    (kx : ∀ (E : String) (ce : Cell) (q9 : Addr) (u : SX) (t : State) (H1 : Heap) (locs1 : List Loc), t.heap = H1 → s.vm.Alike t.vm → px u → BX E u t → H.size ≤ H1.size → (∀ q : Nat, q < H.size → ¬ AX q → H1[q]? = H[q]?) → va_S A0 H0 H1 locs1 → H1[q9]? = some ce → ce.vm = .none → s.vm.findClass E = some ce.cls → vx_W p l e R s m args below meth c H1 locs1 (cells + mc) (slots + ms) Q (F0 m pc ls rest) q9)
    (kk : ∀ (r : Int64) (u : S) (t : State) (H1 : Heap) (locs1 : List Loc), t.heap = H1 → s.vm.Alike t.vm → post r u → B u t → H.size ≤ H1.size → (∀ q : Nat, q < H.size → ¬ A1 q → H1[q]? = H[q]?) → va_S A0 H0 H1 locs1 → W p l e R s m args below meth c H1 locs1 (cells + mc) (slots + ms) Q (F0 m (pc + 3) ls (.long r :: rest))) : W p l e R s m args below meth c H locs cells slots Q (F0 m pc ls st0) := by
  intro T hT X
  rcases hr T hT X with ⟨v, st₀, t, T', L, h0, X', hL, e1, e2, ⟨⟨r, u, hv, hp, hb⟩, hF⟩, st⟩ | ⟨q, st₀, t, T', L, E, ce, h0, X', hL, e1, e2, ⟨u, hp, hb, hF⟩, hce, hcv, hcl, st⟩
  · cases hv
    obtain ⟨k1, k2, k3⟩ := vx_keep h0 e1 hS hA hf hL hF
    obtain ⟨t2, a1, b1⟩ := kk r u t T'.heap (locs ++ L) e1.symm (by rw [← e2]; exact X'.warmed.alike) hp hb k1 k2 k3 T' rfl X'
    exact ⟨t2, st t2 a1, b1⟩
  · obtain ⟨k1, k2, k3⟩ := vx_keep h0 e1 hS hAX hf hL hF
    obtain ⟨t2, a1, b1⟩ := kx E ce q u t T'.heap (locs ++ L) e1.symm (by rw [← e2]; exact X'.warmed.alike) hp hb k1 k2 k3 (by rw [e1]; exact hce) hcv hcl T' rfl X'
    exact ⟨t2, st.trans a1, b1⟩
theorem vx_callf {S SX : Type} {post : UInt32 → S → Prop} {px : SX → Prop} {B : S → State → Prop} {BX : String → SX → State → Prop} {AX : Nat → Prop} (hr : vx_Run p l e R s m args below meth c H locs cells slots mc ms (F0 m pc ls st0) rest (va_Qf post B A1 a) (vx_X px BX AX) free) (hS : va_S A0 H0 H locs) (hA : ∀ q, q < H.size → A1 q → A0 q) (hf : ∀ q, free q → A0 q) (hAX : ∀ q, q < H.size → AX q → A0 q)
    (kx : ∀ (E : String) (ce : Cell) (q9 : Addr) (u : SX) (t : State) (H1 : Heap) (locs1 : List Loc), t.heap = H1 → s.vm.Alike t.vm → px u → BX E u t → H.size ≤ H1.size → (∀ q : Nat, q < H.size → ¬ AX q → H1[q]? = H[q]?) → va_S A0 H0 H1 locs1 → H1[q9]? = some ce → ce.vm = .none → s.vm.findClass E = some ce.cls → vx_W p l e R s m args below meth c H1 locs1 (cells + mc) (slots + ms) Q (F0 m pc ls rest) q9)
    (kk : ∀ (r : UInt32) (u : S) (t : State) (H1 : Heap) (locs1 : List Loc), t.heap = H1 → s.vm.Alike t.vm → post r u → B u t → H.size ≤ H1.size → (∀ q : Nat, q < H.size → ¬ A1 q → H1[q]? = H[q]?) → va_S A0 H0 H1 locs1 → W p l e R s m args below meth c H1 locs1 (cells + mc) (slots + ms) Q (F0 m (pc + 3) ls (.float r :: rest))) : W p l e R s m args below meth c H locs cells slots Q (F0 m pc ls st0) := by
  intro T hT X
  rcases hr T hT X with ⟨v, st₀, t, T', L, h0, X', hL, e1, e2, ⟨⟨r, u, hv, hp, hb⟩, hF⟩, st⟩ | ⟨q, st₀, t, T', L, E, ce, h0, X', hL, e1, e2, ⟨u, hp, hb, hF⟩, hce, hcv, hcl, st⟩
  · cases hv
    obtain ⟨k1, k2, k3⟩ := vx_keep h0 e1 hS hA hf hL hF
    obtain ⟨t2, a1, b1⟩ := kk r u t T'.heap (locs ++ L) e1.symm (by rw [← e2]; exact X'.warmed.alike) hp hb k1 k2 k3 T' rfl X'
    exact ⟨t2, st t2 a1, b1⟩
  · obtain ⟨k1, k2, k3⟩ := vx_keep h0 e1 hS hAX hf hL hF
    obtain ⟨t2, a1, b1⟩ := kx E ce q u t T'.heap (locs ++ L) e1.symm (by rw [← e2]; exact X'.warmed.alike) hp hb k1 k2 k3 (by rw [e1]; exact hce) hcv hcl T' rfl X'
    exact ⟨t2, st.trans a1, b1⟩
theorem vx_calld {S SX : Type} {post : UInt64 → S → Prop} {px : SX → Prop} {B : S → State → Prop} {BX : String → SX → State → Prop} {AX : Nat → Prop} (hr : vx_Run p l e R s m args below meth c H locs cells slots mc ms (F0 m pc ls st0) rest (va_Qd post B A1 a) (vx_X px BX AX) free) (hS : va_S A0 H0 H locs) (hA : ∀ q, q < H.size → A1 q → A0 q) (hf : ∀ q, free q → A0 q) (hAX : ∀ q, q < H.size → AX q → A0 q)
    (kx : ∀ (E : String) (ce : Cell) (q9 : Addr) (u : SX) (t : State) (H1 : Heap) (locs1 : List Loc), t.heap = H1 → s.vm.Alike t.vm → px u → BX E u t → H.size ≤ H1.size → (∀ q : Nat, q < H.size → ¬ AX q → H1[q]? = H[q]?) → va_S A0 H0 H1 locs1 → H1[q9]? = some ce → ce.vm = .none → s.vm.findClass E = some ce.cls → vx_W p l e R s m args below meth c H1 locs1 (cells + mc) (slots + ms) Q (F0 m pc ls rest) q9)
    (kk : ∀ (r : UInt64) (u : S) (t : State) (H1 : Heap) (locs1 : List Loc), t.heap = H1 → s.vm.Alike t.vm → post r u → B u t → H.size ≤ H1.size → (∀ q : Nat, q < H.size → ¬ A1 q → H1[q]? = H[q]?) → va_S A0 H0 H1 locs1 → W p l e R s m args below meth c H1 locs1 (cells + mc) (slots + ms) Q (F0 m (pc + 3) ls (.double r :: rest))) : W p l e R s m args below meth c H locs cells slots Q (F0 m pc ls st0) := by
  intro T hT X
  rcases hr T hT X with ⟨v, st₀, t, T', L, h0, X', hL, e1, e2, ⟨⟨r, u, hv, hp, hb⟩, hF⟩, st⟩ | ⟨q, st₀, t, T', L, E, ce, h0, X', hL, e1, e2, ⟨u, hp, hb, hF⟩, hce, hcv, hcl, st⟩
  · cases hv
    obtain ⟨k1, k2, k3⟩ := vx_keep h0 e1 hS hA hf hL hF
    obtain ⟨t2, a1, b1⟩ := kk r u t T'.heap (locs ++ L) e1.symm (by rw [← e2]; exact X'.warmed.alike) hp hb k1 k2 k3 T' rfl X'
    exact ⟨t2, st t2 a1, b1⟩
  · obtain ⟨k1, k2, k3⟩ := vx_keep h0 e1 hS hAX hf hL hF
    obtain ⟨t2, a1, b1⟩ := kx E ce q u t T'.heap (locs ++ L) e1.symm (by rw [← e2]; exact X'.warmed.alike) hp hb k1 k2 k3 (by rw [e1]; exact hce) hcv hcl T' rfl X'
    exact ⟨t2, st.trans a1, b1⟩
theorem vx_callv {S SX : Type} {post : S → Prop} {px : SX → Prop} {B : S → State → Prop} {BX : String → SX → State → Prop} {AX : Nat → Prop} (hr : vx_Run p l e R s m args below meth c H locs cells slots mc ms (F0 m pc ls st0) rest (va_Qv post B A1 a) (vx_X px BX AX) free) (hS : va_S A0 H0 H locs) (hA : ∀ q, q < H.size → A1 q → A0 q) (hf : ∀ q, free q → A0 q) (hAX : ∀ q, q < H.size → AX q → A0 q)
    (kx : ∀ (E : String) (ce : Cell) (q9 : Addr) (u : SX) (t : State) (H1 : Heap) (locs1 : List Loc), t.heap = H1 → s.vm.Alike t.vm → px u → BX E u t → H.size ≤ H1.size → (∀ q : Nat, q < H.size → ¬ AX q → H1[q]? = H[q]?) → va_S A0 H0 H1 locs1 → H1[q9]? = some ce → ce.vm = .none → s.vm.findClass E = some ce.cls → vx_W p l e R s m args below meth c H1 locs1 (cells + mc) (slots + ms) Q (F0 m pc ls rest) q9)
    (kk : ∀ (u : S) (t : State) (H1 : Heap) (locs1 : List Loc), t.heap = H1 → s.vm.Alike t.vm → post u → B u t → H.size ≤ H1.size → (∀ q : Nat, q < H.size → ¬ A1 q → H1[q]? = H[q]?) → va_S A0 H0 H1 locs1 → W p l e R s m args below meth c H1 locs1 (cells + mc) (slots + ms) Q (F0 m (pc + 3) ls (rest))) : W p l e R s m args below meth c H locs cells slots Q (F0 m pc ls st0) := by
  intro T hT X
  rcases hr T hT X with ⟨v, st₀, t, T', L, h0, X', hL, e1, e2, ⟨⟨u, hv, hp, hb⟩, hF⟩, st⟩ | ⟨q, st₀, t, T', L, E, ce, h0, X', hL, e1, e2, ⟨u, hp, hb, hF⟩, hce, hcv, hcl, st⟩
  · cases hv
    obtain ⟨k1, k2, k3⟩ := vx_keep h0 e1 hS hA hf hL hF
    obtain ⟨t2, a1, b1⟩ := kk u t T'.heap (locs ++ L) e1.symm (by rw [← e2]; exact X'.warmed.alike) hp hb k1 k2 k3 T' rfl X'
    exact ⟨t2, st t2 a1, b1⟩
  · obtain ⟨k1, k2, k3⟩ := vx_keep h0 e1 hS hAX hf hL hF
    obtain ⟨t2, a1, b1⟩ := kx E ce q u t T'.heap (locs ++ L) e1.symm (by rw [← e2]; exact X'.warmed.alike) hp hb k1 k2 k3 (by rw [e1]; exact hce) hcv hcl T' rfl X'
    exact ⟨t2, st.trans a1, b1⟩
/-- caught by the row x of this method's table; the rows ahead don't take it -/
theorem vx_catch {own name : String} {E : String} {ce : Cell} {q : Addr} (hown : s.vm.findClass own = some m.cls) (pre : List ExceptionTableEntry) (x : ExceptionTableEntry) (suf : List ExceptionTableEntry) (hsplit : c.exceptionTable.toList = pre ++ x :: suf)
    (hpass : ∀ z ∈ pre, covers z pc = false ∨ (z.catchType ≠ 0 ∧ ∃ nm : String, (Cond.classLink own z.catchType nm).before args s = true ∧ va_Nc E nm s)) (hx : covers x pc = true) (h0 : x.catchType ≠ 0)
    (hlink : (Cond.classLink own x.catchType name).before args s = true) (hcast : (Cond.castable E name).before args s = true) (hcell : H[q]? = some ce) (hv : ce.vm = .none) (hcl : s.vm.findClass E = some ce.cls)
    (kk : W p l e R s m args below meth c H locs cells slots Q (F0 m x.handlerPc ls [.ref q])) : vx_W p l e R s m args below meth c H locs cells slots Q (F0 m pc ls rest) q := by
  intro T hT X
  have hpl : e.platform.magicAccessors = ({} : Platform).magicAccessors := by rw [X.admits.platform]
  obtain ⟨c3, c4, hc3, hc4, hasg⟩ := Cond.castable_spec hcast
  cases Option.some.inj (hc3.symm.trans hcl)
  obtain ⟨c5, hc5, hcl5⟩ := Cond.classLink_spec hown hlink e.platform hpl
  cases Option.some.inj (hc4.symm.trans hc5)
  obtain ⟨vm', X', st⟩ := X.thenCaughtThrough q (g := F0 m pc ls rest) rfl (Steps.refl _) (by rw [hT]; exact hcell) (by rw [hv]; rfl) (by obtain ⟨k9, h9, -⟩ := Vm.findClass_spec hcl; exact ⟨k9, h9⟩) pre x suf hsplit
    (fun z hz => by
      rcases hpass z hz with h | ⟨hz0, nm, hl1, hn1⟩
      · exact Or.inl h
      · obtain ⟨c6, hc6, hcl6⟩ := Cond.classLink_spec hown hl1 e.platform hpl
        obtain ⟨a8, b8, h1, h2, h3⟩ := hn1
        cases Option.some.inj (h1.symm.trans hcl)
        cases Option.some.inj (h2.symm.trans hc6)
        exact Or.inr ⟨hz0, _, hcl6, h3⟩) hx (Or.inr ⟨h0, c4, hcl5, hasg⟩)
  obtain ⟨t, a1, b1⟩ := kk (T.setVm vm') hT X'
  exact ⟨t, st.trans a1, b1⟩
end Rows
section Ends
variable {p : Program} {l : Launch} {e : Env} {R : Room} {s : State} {m : MethodId} {args : Array Value} {below : List Frame} {meth : Method} {c : Code} {H : Heap} {locs : List Loc} {cells slots : Nat} {Q : State → Prop}
variable {mc ms : Nat} {free : Addr → Prop} {A0 A1 : Nat → Prop} {H0 : Heap} {a : Array Value} {ls : Array Slot} {st0 rest : List Value}
variable {Qc : Array Value → State → Outcome → State → Prop} {XC : String → State → State → Prop}
/-- what a body that may throw owes at its end -/
def vx_MQ (below : List Frame) (Qc : Array Value → State → Outcome → State → Prop) (XC : String → State → State → Prop) (a : Array Value) (s : State) (mc ms : Nat) (free : Addr → Prop) : State → Prop := fun t =>
  ∃ o, t.status = .running ∧ Ended t below o ∧ vx_Q Qc XC mc ms free a s o t
theorem vx_ret {g : JFrame} {mc ms : Nat} (k : W p l e R s m args below meth c H locs cells slots (MQ below Qc args s mc ms free) g) : W p l e R s m args below meth c H locs cells slots (vx_MQ below Qc XC args s mc ms free) g := by
  intro T hT X
  obtain ⟨t, a1, o, b1, b2, b3, b4⟩ := k T hT X
  exact ⟨t, a1, o, b1, b2, Or.inl ⟨b3, b4⟩⟩
/-- not caught here: it goes on to the caller -/
theorem vx_widen {g : JFrame} {q : Addr} {k n : Nat} (h1 : cells ≤ k) (h2 : slots ≤ n) (kk : vx_W p l e R s m args below meth c H locs k n Q g q) : vx_W p l e R s m args below meth c H locs cells slots Q g q := fun T hT X => kk T hT (stand_widen X h1 h2)
theorem vx_out {pc : Nat} {E : String} {ce : Cell} {q : Addr} {mc ms : Nat} (hout : ∀ x ∈ c.exceptionTable.toList, covers x pc = false) (hlocks : meth.locks = false) (hcell : H[q]? = some ce) (hv : ce.vm = .none) (hcl : s.vm.findClass E = some ce.cls)
    (hx : ∀ t : State, t.heap = H → s.vm.Alike t.vm → XC E s t) (hf : ∀ z ∈ locs, free z.base) (hc : cells ≤ mc) (hs : slots ≤ ms) :
    vx_W p l e R s m args below meth c H locs cells slots (vx_MQ below Qc XC args s mc ms free) (F0 m pc ls rest) q := by
  intro T hT X
  obtain ⟨st1, hrun, hend, hW, hsm⟩ := X.leaveThrown q (g := F0 m pc ls rest) rfl rfl rfl hout hlocks
  have hcell9 : (T.setFrames (.throwing q :: below)).heap[q]? = some ce := by
    show T.heap[q]? = some ce
    rw [hT]; exact hcell
  exact ⟨_, st1, .threw q, hrun, hend, Or.inr ⟨q, rfl, E, ce, locs, hx _ hT hW.alike, hcell9, hv, hcl, hW, hsm.mono hc hs, hf⟩⟩
theorem vx_frame {U : State} {k n : Nat} (h : s.sameButNew ({ U with vm := s.vm } : State) locs k n) : s.heap.size ≤ U.heap.size ∧ ∀ q : Nat, q < s.heap.size → (∀ z ∈ locs, z.base ≠ q) → U.heap[q]? = s.heap[q]? := by
  obtain ⟨-, h2, -, -, -, h6⟩ := h
  refine ⟨h2, fun q hq hz => ?_⟩
  obtain ⟨c9, e1, e2, e3, e4⟩ := h6 q _ (Array.getElem?_eq_getElem hq)
  have hs : c9.slots = (s.heap[q]).slots := Array.ext_getElem? fun i => e4 i fun hm => hz _ hm rfl
  have h9 : c9 = s.heap[q] := by
    rw [hs] at e2
    exact e2
  have e5 : U.heap[q]? = some c9 := e1
  rw [e5, h9, Array.getElem?_eq_getElem hq]
/-- the words of a throw but the four that speak of the heap -/
def vx_no (w : Cond) : Bool := decide (w ≠ .isRef (.static Bundle.tN "UNASSIGNED_STACK" Bundle.steD)) && decide (w ≠ .isRef (.static Bundle.tN "SUPPRESSED_SENTINEL" Bundle.listD)) && decide (w ≠ .laysStatic Bundle.tN "UNASSIGNED_STACK" Bundle.steD) && decide (w ≠ .laysStatic Bundle.tN "SUPPRESSED_SENTINEL" Bundle.listD)
def vx_at0 (own : String) (ic : Nat) (X : String) (names : List String) : List Cond := (Bundle.ownAtoms0 own ic X names).filter vx_no
def vx_atS (own : String) (ic : Nat) (X : String) (names : List String) : List Cond := (Bundle.ownAtoms own ic X names).filter vx_no
/-- a word that the tables alone decide, or a good one -/
def vx_ot (w : Cond) : Bool := w.onTables || goodWord w
theorem vx_ot_at {args a' : Array Value} {s U : State} {w : Cond} (hW : s.WarmedH U.vm) (hvm : s.vm = U.vm) (hg : vx_ot w = true) (h : w.before args s = true) : w.before a' U = true := by
  simp only [vx_ot, Bool.or_eq_true] at hg
  rcases hg with hg | hg
  · exact va_tabs hg hvm h
  · exact word_at hW (good_of_word hg) h
/-- a list's words: the good ones out of the method's own list, the others by premises of their own -/
theorem vx_hat {args : Array Value} {s : State} {L B : List Cond} (h1 : ∀ w ∈ L.filter goodWord, w.before args s = true) (h2 : ∀ w ∈ L.filter (fun w => !goodWord w), w ∈ B) (h3 : ∀ w ∈ B, w.before args s = true) : ∀ w ∈ L, w.before args s = true := by
  intro w hw
  by_cases g : goodWord w = true
  · exact h1 w (List.mem_filter.mpr ⟨hw, g⟩)
  · refine h3 w (h2 w (List.mem_filter.mpr ⟨hw, ?_⟩))
    show (!goodWord w) = true
    cases hgw : goodWord w
    · rfl
    · exact absurd hgw g
theorem vx_c {args : Array Value} {s : State} {w : Cond} {B : List Cond} (h : w.before args s = true) (t : ∀ w ∈ B, w.before args s = true) : ∀ w' ∈ w :: B, w'.before args s = true := fun w' h' => (List.mem_cons.mp h').elim (fun e => by rw [e]; exact h) (t w')
theorem vx_n {args : Array Value} {s : State} : ∀ w ∈ ([] : List Cond), w.before args s = true := fun _ h => nomatch h
theorem vx_own {args : Array Value} {s : State} {L : List Cond} (h1 : ∀ w ∈ L.filter vx_no, w.before args s = true)
    (hU : (Cond.isRef (.static Bundle.tN "UNASSIGNED_STACK" Bundle.steD)).before args s = true) (hN : (Cond.isRef (.static Bundle.tN "SUPPRESSED_SENTINEL" Bundle.listD)).before args s = true)
    (lU : (Cond.laysStatic Bundle.tN "UNASSIGNED_STACK" Bundle.steD).before args s = true) (lN : (Cond.laysStatic Bundle.tN "SUPPRESSED_SENTINEL" Bundle.listD).before args s = true) : ∀ w ∈ L, w.before args s = true := by
  intro w hw
  by_cases e1 : w = .isRef (.static Bundle.tN "UNASSIGNED_STACK" Bundle.steD)
  · rw [e1]; exact hU
  · by_cases e2 : w = .isRef (.static Bundle.tN "SUPPRESSED_SENTINEL" Bundle.listD)
    · rw [e2]; exact hN
    · by_cases e3 : w = .laysStatic Bundle.tN "UNASSIGNED_STACK" Bundle.steD
      · rw [e3]; exact lU
      · by_cases e4 : w = .laysStatic Bundle.tN "SUPPRESSED_SENTINEL" Bundle.listD
        · rw [e4]; exact lN
        · exact h1 w (List.mem_filter.mpr ⟨hw, by unfold vx_no; rw [decide_eq_true e1, decide_eq_true e2, decide_eq_true e3, decide_eq_true e4]; rfl⟩)
/-- where a static field lies, its class's statics cell in H -/
def vx_L (C n d : String) (A : Nat → Prop) (U : State) (H : Heap) : Prop := ∃ (c : ClassId) (k : Class) (i : Nat) (f : Field) (a : Nat) (cell : Cell), U.vm.findClass C = some c ∧ U.fieldFound? C n d = some (c, k, i, f) ∧ f.isStatic = true ∧ k.statics = some a ∧ H[a]? = some cell ∧ cell.vm.isStatics = true ∧ cell.cls = c ∧ f.slot < cell.slots.size ∧ k.staticTypes[f.slot]? = some f.type ∧ ¬ A a
theorem vx_L.moved {C n d : String} {A : Nat → Prop} {u U : State} {H : Heap} (hvm : u.vm.Alike U.vm) (h : vx_L C n d A u H) : vx_L C n d A U H := by
  obtain ⟨c, k, i, f, a, cell, h1, h2, h3, h4, h5, h6, h7, h8, h9, h10⟩ := h
  obtain ⟨k', hi', he⟩ := State.fieldFound?_setVm hvm h2
  exact ⟨c, k', i, f, a, cell, by rw [hvm.findClass]; exact h1, hi', h3, by rw [he]; exact h4, h5, h6, h7, h8, by rw [he]; exact h9, h10⟩
theorem vx_L.kept {C n d : String} {A : Nat → Prop} {U : State} {H H1 : Heap} (h : vx_L C n d A U H) (hq : ∀ a : Nat, a < H.size → ¬ A a → H1[a]? = H[a]?) : vx_L C n d A U H1 := by
  obtain ⟨c, k, i, f, a, cell, h1, h2, h3, h4, h5, h6, h7, h8, h9, h10⟩ := h
  exact ⟨c, k, i, f, a, cell, h1, h2, h3, h4, by rw [hq a (Array.getElem?_eq_some_iff.mp h5).1 h10]; exact h5, h6, h7, h8, h9, h10⟩
theorem vx_L.narrow {C n d : String} {A B : Nat → Prop} {U : State} {H : Heap} (h : vx_L C n d A U H) (hAB : ∀ q, B q → A q) : vx_L C n d B U H := by
  obtain ⟨c, k, i, f, a, cell, h1, h2, h3, h4, h5, h6, h7, h8, h9, h10⟩ := h
  exact ⟨c, k, i, f, a, cell, h1, h2, h3, h4, h5, h6, h7, h8, h9, fun z => h10 (hAB _ z)⟩
theorem vx_L.word {C n d : String} {A : Nat → Prop} {s : State} {args : Array Value} (h : vx_L C n d A s s.heap) : (Cond.laysStatic C n d).before args s = true := by
  obtain ⟨c, k, i, f, a, cell, h1, h2, h3, h4, h5, h6, h7, h8, h9, -⟩ := h
  show (Cond.laysStatic C n d).holds args s none s [] = true
  exact Cond.laysStatic_of h1 h2 h3 h4 h5 h6 h7 h8 h9
/-- .. and what it holds: null or some reference -/
def vx_Zq (C n d : String) (A : Nat → Prop) (U : State) (H : Heap) : Prop := va_Zq C n d A U H ∧ vx_L C n d A U H
theorem vx_Zq.moved {C n d : String} {A : Nat → Prop} {u U : State} {H : Heap} (hvm : u.vm.Alike U.vm) (h : vx_Zq C n d A u H) : vx_Zq C n d A U H := ⟨va_Zq.moved hvm h.1, vx_L.moved hvm h.2⟩
theorem vx_Zq.kept {C n d : String} {A : Nat → Prop} {U : State} {H H1 : Heap} (h : vx_Zq C n d A U H) (hq : ∀ a : Nat, a < H.size → ¬ A a → H1[a]? = H[a]?) : vx_Zq C n d A U H1 := ⟨va_Zq.kept h.1 hq, vx_L.kept h.2 hq⟩
theorem vx_Zq.narrow {C n d : String} {A B : Nat → Prop} {U : State} {H : Heap} (h : vx_Zq C n d A U H) (hAB : ∀ q, B q → A q) : vx_Zq C n d B U H := ⟨va_Zq.narrow h.1 hAB, vx_L.narrow h.2 hAB⟩
theorem vx_Zqof {args : Array Value} {s : State} {C n d : String} {A : Nat → Prop} (hl : (Cond.laysStatic C n d).before args s = true) (hini : (Cond.initialized C).before args s = true) (h : (Cond.isRef (.static C n d)).before args s = true) (hA : ∀ a : Nat, a < s.heap.size → ¬ A a) : vx_Zq C n d A s s.heap := by
  refine ⟨va_Zqof hl hini h hA, ?_⟩
  obtain ⟨c, k, i, f, a, cell, h1, h2, h3, h4, h5, h6, h7, h8, h9⟩ := Cond.laysStatic_spec hl
  exact ⟨c, k, i, f, a, cell, h1, h2, h3, h4, h5, h6, h7, h8, h9, hA a (Array.getElem?_eq_some_iff.mp h5).1⟩
theorem vx_isRef {C n d : String} {v : Value} {A : Nat → Prop} {s : State} {args : Array Value} (h : va_Z C n d v A s s.heap) (hv : v.isRef = true) : (Cond.isRef (.static C n d)).before args s = true := by
  obtain ⟨cf, kf, fi, f, a, cell, h1, h2, h3, h4, h5, h6, h7, -⟩ := h
  have he : (Term.static C n d).eval args s none [] s = some v := by
    simp [Term.eval, State.fieldNamed?, h1, h2, h4, h5, h6, h7]
  simp only [Cond.before, Cond.holds, Cond.value, he]
  cases v <;> simp_all [Value.isRef]
theorem vx_isRefq {C n d : String} {A : Nat → Prop} {s : State} {args : Array Value} (h : va_Zq C n d A s s.heap) : (Cond.isRef (.static C n d)).before args s = true := by
  rcases h with h | ⟨t, h⟩
  · exact vx_isRef h rfl
  · exact vx_isRef h rfl
/-- the same frame, seen from here: as if the method were called anew in this heap -/
theorem vx_rebase {T : State} (X : Stand p l e R s m args below meth c T locs cells slots) {R' : Room} (hf : R'.frames ≤ R.frames) (hl : R'.locals ≤ R.locals) (hc : cells + R'.cells ≤ R.cells) (hs : slots + R'.slots ≤ R.slots) :
    Stand p l e R' ((T.setVm s.vm).setFrames (.invoking m args :: below)) m args below meth c T [] 0 0 := by
  have htop : (T.setVm s.vm).topJava?.isSome := X.here.top
  have hF : ((T.setVm s.vm).setFrames (.invoking m args :: below)).frames = .invoking m args :: below := State.frames_setFrames _ (State.cur_lt_of_top htop)
  obtain ⟨g₀, hg0⟩ := Option.isSome_iff_exists.mp htop
  obtain ⟨r, hr⟩ := State.topJava?_eq_some.mp hg0
  have hl9 : e.platform.stackLimits (T.setVm s.vm).me = e.platform.stackLimits s.me := X.limits
  have hb9 : (T.setVm s.vm).me.stackBytes = s.me.stackBytes := X.bytes
  refine ⟨X.admits, X.cas, X.clock, hF, ?_, X.hears, X.method, X.code, X.here, X.tail, X.warmed, ?_, ?_, ?_⟩
  · have h := X.room
    have hU : ((T.setVm s.vm).setFrames (.invoking m args :: below)).localsInUse = s.localsInUse := by
      rw [State.localsInUse_invoking hF (meth := meth) (c := c) X.method X.code, State.localsInUse_invoking X.frames X.method X.code]
    simp only [State.hasRoom, Bool.and_eq_true, decide_eq_true_eq] at h ⊢
    obtain ⟨⟨⟨⟨h1, h2, h3, h4, h5, h6⟩, h7⟩, h8⟩, h9⟩ := h
    rw [X.frames, List.length_cons] at h2 h3
    have q1 := X.heapSize
    have q2 := X.used
    simp only [hF, hU, List.length_cons, State.stackLimits_setFrames, State.stackBytes_setFrames, hl9, hb9]
    refine ⟨⟨⟨⟨by omega, by omega, by omega, by omega, by omega, h6⟩, ?_⟩, ?_⟩, X.book⟩
    · show T.heap.size + R'.cells ≤ e.platform.maxCells
      omega
    · show T.slotsUsed + R'.slots ≤ e.platform.maxSlots
      omega
  · rw [State.stackLimits_setFrames]; rfl
  · rw [State.stackBytes_setFrames]; rfl
  · refine ⟨?_, Nat.le_refl _, Nat.le_refl _, ?_, ?_, fun a c9 h9 => ⟨c9, h9, rfl, rfl, fun _ _ => rfl⟩⟩
    · obtain ⟨t, ht, -⟩ := State.frames_cons hr
      show T.setVm s.vm = { ((T.setVm s.vm).setFrames (.invoking m args :: below)).setFrames (T.setVm s.vm).frames with heap := T.heap, slotsUsed := T.slotsUsed }
      rw [State.setFrames_setFrames, State.setFrames_self ht]
      rfl
    · show T.slotsUsed = T.slotsUsed + ((T.heap.toList.drop T.heap.size).map (·.slots.size)).sum
      rw [List.drop_eq_nil_of_le (Nat.le_of_eq Array.length_toList)]
      rfl
    · show ((T.heap.toList.drop T.heap.size).map (·.slots.size)).sum ≤ 0
      rw [List.drop_eq_nil_of_le (Nat.le_of_eq Array.length_toList)]
      exact Nat.le_refl _
/-- 'throw new E()': new; dup; invokespecial; athrow -/
theorem vx_throw0 {cc : ByteArray} {pc : Nat} (hexec : p.tables.exec = Jvm.exec) (hb : c.code = cc) (hl : l.stackTraces = false) {own cls : String} {names : List String} {ik ic mc ms : Nat} {A : Nat → Prop}
    (hown : s.vm.findClass own = some m.cls) (hcls : Bundle.fit cls = true) (hnames : ∀ n ∈ names, Bundle.fit n = true)
    (hk : (Cond.classLink own ik cls).before args s = true) (hini : (Cond.initialized cls).before args s = true) (hat : ∀ w ∈ vx_at0 own ic cls names, w.before args s = true)
    (hgood : ∀ w ∈ Cond.classLink own ik cls :: Cond.initialized cls :: vx_at0 own ic cls names, vx_ot w = true)
    (hU : vx_Zq Bundle.tN "UNASSIGNED_STACK" Bundle.steD A s s.heap) (hN : vx_Zq Bundle.tN "SUPPRESSED_SENTINEL" Bundle.listD A s s.heap) (hS : va_S A s.heap H locs) (hsize : ls.size = c.maxLocals)
    (d0 : decode cc pc = .ok (.new ik, 3)) (d3 : decode cc (pc + 3) = .ok (.dup, 1)) (d4 : decode cc (pc + 4) = .ok (.invokespecial ic, 3)) (d7 : decode cc (pc + 7) = .ok (.athrow, 1))
    (hout : ∀ x ∈ c.exceptionTable.toList, covers x (pc + 7) = false)
    (hRframes : names.length + 3 < R.frames) (hRlocals : (rest.map fun v => v.category).sum + (13 * (names.length + 1) + 42) ≤ R.locals) (hRcells : cells + 1 ≤ R.cells) (hRslots : slots + 6 ≤ R.slots) (hlocks : meth.locks = false)
    (hx : ∀ t : State, s.vm.Alike t.vm → H.size ≤ t.heap.size → (∀ q : Nat, q < H.size → t.heap[q]? = H[q]?) → XC cls s t)
    (hf : ∀ z ∈ locs, free z.base) (hc : cells + 1 ≤ mc) (hs : slots + 6 ≤ ms) :
    W p l e R s m args below meth c H locs cells slots (vx_MQ below Qc XC args s mc ms free) (F0 m pc ls rest) := by
  intro T hT X
  have htr : e.platform.stackTraces = false := (show e.platform.stackTraces = l.stackTraces by rw [X.admits.platform]).trans hl
  have Y := vx_rebase X (R' := { frames := R.frames, locals := R.locals, cells := 1, slots := 6 }) (Nat.le_refl _) (Nat.le_refl _) hRcells hRslots
  obtain ⟨s', hA⟩ : ∃ z, z = (T.setVm s.vm).setFrames (.invoking m args :: below) := ⟨_, rfl⟩
  rw [← hA] at Y
  have hvm : s'.vm = s.vm := by rw [hA]; rfl
  have hhp : s'.heap = H := by rw [hA]; exact hT
  have hW0 : s.WarmedH s'.vm := by rw [hvm]; exact State.WarmedH.refl s
  have hat' : ∀ w ∈ vx_at0 own ic cls names, w.before args s' = true := fun w hw => vx_ot_at hW0 hvm.symm (hgood w (List.mem_cons_of_mem _ (List.mem_cons_of_mem _ hw))) (hat w hw)
  have hk' : (Cond.classLink own ik cls).before args s' = true := vx_ot_at hW0 hvm.symm (hgood _ List.mem_cons_self) hk
  have hini' : (Cond.initialized cls).before args s' = true := vx_ot_at hW0 hvm.symm (hgood _ (List.mem_cons_of_mem _ List.mem_cons_self)) hini
  have hU' : vx_Zq Bundle.tN "UNASSIGNED_STACK" Bundle.steD A s' s'.heap := by rw [hhp]; exact vx_Zq.moved hW0.alike (hU.kept hS.2.1)
  have hN' : vx_Zq Bundle.tN "SUPPRESSED_SENTINEL" Bundle.listD A s' s'.heap := by rw [hhp]; exact vx_Zq.moved hW0.alike (hN.kept hS.2.1)
  have h : ∀ w ∈ Bundle.ownAtoms0 own ic cls names, w.before args s' = true := vx_own hat' (vx_isRefq hU'.1) (vx_isRefq hN'.1) hU'.2.word hN'.2.word
  have hown' : s'.vm.findClass own = some m.cls := by rw [hvm]; exact hown
  have hins : (Cond.instantiable cls 6).before args s' = true := h _ (by simp [Bundle.ownAtoms0])
  obtain ⟨vm₁, cX, kX, hfX, hkX, -, -, X₁, st1⟩ := Y.newCold hexec (own := own) (C := cls) (index := ik) (n := 6) hown' hk' hins hini'
    (g := F0 m pc ls rest) rfl (by rw [hb]; exact d0) (Nat.le_refl _) (Nat.le_refl _)
  generalize hT1 : (T.setVm vm₁).pushCell { cls := cX, slots := kX.instanceTypes.map defaultValue, vm := .none } = T1 at X₁ st1
  have hcat : (Value.ref T.heap.size).category = 1 := rfl
  have hcellA : T1.heap[T.heap.size]? = some (freshCell cX kX) := by rw [← hT1]; exact State.heap_pushCell_size _ _
  have d3' : decode c.code (pc + 3) = .ok (.dup, 1) := by rw [hb]; exact d3
  obtain ⟨U, hsteps, hrun, hend, hW, hsame, ce, hce, hO⟩ := X₁.ctorThrow0 hexec htr (own := own) (cls := cls) (names := names) (ic := ic) hown' hcls hnames h (fun x hx => nomatch hx) hfX hkX hcellA (by rw [hhp, hT]; exact Nat.le_refl _)
    (g := { method := m, pc := pc + 4, locals := ls, stack := .ref T.heap.size :: .ref T.heap.size :: rest, locked := none }) rfl hsize rfl rfl (rest := rest) rfl
    (by rw [hb]; exact d4) (by rw [hb]; exact d7) hout hRframes (by simp only [List.map_cons, List.sum_cons, hcat]; omega) hlocks
  obtain ⟨f1, f2⟩ := vx_frame hsame
  rw [hhp] at f1 f2
  have hWs : s.WarmedH U.vm := State.WarmedH.trans hW0 hW
  have hcl : s.vm.findClass cls = some ce.cls := by
    have h9 := hO.cls
    rw [hvm] at h9
    exact h9
  have hall : s.sameButNew ({ U with vm := s.vm } : State) locs mc ms := by
    subst hA
    obtain ⟨e1, e2⟩ := hsame
    rw [State.setFrames_setFrames] at e1
    have h2 : (T.setVm s.vm).sameButNew ({ U with vm := s.vm } : State) [] (0 + 1) (0 + 6) := ⟨e1, e2⟩
    have h3 := X.same.trans h2
    rw [List.append_nil] at h3
    exact h3.mono hc hs
  refine ⟨U, ?_, .threw T.heap.size, hrun, hend, Or.inr ⟨T.heap.size, rfl, cls, ce, locs, hx U hWs.alike f1 (fun q hq => f2 q hq (fun z hz => nomatch hz)), hce, hO.vm, hcl, hWs, hall, hf⟩⟩
  refine st1 _ ?_
  show Steps p.tables e below (T1.setTop { method := m, pc := pc + 3, locals := ls, stack := .ref T.heap.size :: rest, locked := none }) _
  jvm_step X₁.here [X₁.here.top, hexec, d3', Value.category]
  exact hsteps
/-- 'throw new E("text")': new; dup; ldc; invokespecial; athrow -/
theorem vx_throwS {cc : ByteArray} {pc : Nat} (hexec : p.tables.exec = Jvm.exec) (hb : c.code = cc) (hl : l.stackTraces = false) {own cls text : String} {names : List String} {ik is ic mc ms sa : Nat} {A : Nat → Prop}
    (hown : s.vm.findClass own = some m.cls) (hcls : Bundle.fit cls = true) (hnames : ∀ n ∈ names, Bundle.fit n = true)
    (hk : (Cond.classLink own ik cls).before args s = true) (hini : (Cond.initialized cls).before args s = true) (hstr : vk_R own is text sa s) (hat : ∀ w ∈ vx_atS own ic cls names, w.before args s = true)
    (hgood : ∀ w ∈ Cond.classLink own ik cls :: Cond.initialized cls :: vx_atS own ic cls names, vx_ot w = true)
    (hU : vx_Zq Bundle.tN "UNASSIGNED_STACK" Bundle.steD A s s.heap) (hN : vx_Zq Bundle.tN "SUPPRESSED_SENTINEL" Bundle.listD A s s.heap) (hS : va_S A s.heap H locs) (hsize : ls.size = c.maxLocals)
    (d0 : decode cc pc = .ok (.new ik, 3)) (d3 : decode cc (pc + 3) = .ok (.dup, 1)) (d4 : decode cc (pc + 4) = .ok (.ldc is, 2)) (d6 : decode cc (pc + 6) = .ok (.invokespecial ic, 3)) (d9 : decode cc (pc + 9) = .ok (.athrow, 1))
    (hout : ∀ x ∈ c.exceptionTable.toList, covers x (pc + 9) = false)
    (hRframes : names.length + 3 < R.frames) (hRlocals : (rest.map fun v => v.category).sum + (13 * (names.length + 1) + 43) ≤ R.locals) (hRcells : cells + 1 ≤ R.cells) (hRslots : slots + 6 ≤ R.slots) (hlocks : meth.locks = false)
    (hx : ∀ t : State, s.vm.Alike t.vm → H.size ≤ t.heap.size → (∀ q : Nat, q < H.size → t.heap[q]? = H[q]?) → XC cls s t)
    (hf : ∀ z ∈ locs, free z.base) (hc : cells + 1 ≤ mc) (hs : slots + 6 ≤ ms) :
    W p l e R s m args below meth c H locs cells slots (vx_MQ below Qc XC args s mc ms free) (F0 m pc ls rest) := by
  intro T hT X
  have htr : e.platform.stackTraces = false := (show e.platform.stackTraces = l.stackTraces by rw [X.admits.platform]).trans hl
  have Y := vx_rebase X (R' := { frames := R.frames, locals := R.locals, cells := 1, slots := 6 }) (Nat.le_refl _) (Nat.le_refl _) hRcells hRslots
  obtain ⟨s', hA⟩ : ∃ z, z = (T.setVm s.vm).setFrames (.invoking m args :: below) := ⟨_, rfl⟩
  rw [← hA] at Y
  have hvm : s'.vm = s.vm := by rw [hA]; rfl
  have hhp : s'.heap = H := by rw [hA]; exact hT
  have hW0 : s.WarmedH s'.vm := by rw [hvm]; exact State.WarmedH.refl s
  have hat' : ∀ w ∈ vx_atS own ic cls names, w.before args s' = true := fun w hw => vx_ot_at hW0 hvm.symm (hgood w (List.mem_cons_of_mem _ (List.mem_cons_of_mem _ hw))) (hat w hw)
  have hk' : (Cond.classLink own ik cls).before args s' = true := vx_ot_at hW0 hvm.symm (hgood _ List.mem_cons_self) hk
  have hini' : (Cond.initialized cls).before args s' = true := vx_ot_at hW0 hvm.symm (hgood _ (List.mem_cons_of_mem _ List.mem_cons_self)) hini
  have hU' : vx_Zq Bundle.tN "UNASSIGNED_STACK" Bundle.steD A s' s'.heap := by rw [hhp]; exact vx_Zq.moved hW0.alike (hU.kept hS.2.1)
  have hN' : vx_Zq Bundle.tN "SUPPRESSED_SENTINEL" Bundle.listD A s' s'.heap := by rw [hhp]; exact vx_Zq.moved hW0.alike (hN.kept hS.2.1)
  have h : ∀ w ∈ Bundle.ownAtoms own ic cls names, w.before args s' = true := vx_own hat' (vx_isRefq hU'.1) (vx_isRefq hN'.1) hU'.2.word hN'.2.word
  have hown' : s'.vm.findClass own = some m.cls := by rw [hvm]; exact hown
  have hins : (Cond.instantiable cls 6).before args s' = true := h _ (by simp [Bundle.ownAtoms])
  obtain ⟨vm₁, cX, kX, hfX, hkX, -, -, X₁, st1⟩ := Y.newCold hexec (own := own) (C := cls) (index := ik) (n := 6) hown' hk' hins hini'
    (g := F0 m pc ls rest) rfl (by rw [hb]; exact d0) (Nat.le_refl _) (Nat.le_refl _)
  generalize hT1 : (T.setVm vm₁).pushCell { cls := cX, slots := kX.instanceTypes.map defaultValue, vm := .none } = T1 at X₁ st1
  have hcat : (Value.ref T.heap.size).category = 1 := rfl
  have hcellA : T1.heap[T.heap.size]? = some (freshCell cX kX) := by rw [← hT1]; exact State.heap_pushCell_size _ _
  have d3' : decode c.code (pc + 3) = .ok (.dup, 1) := by rw [hb]; exact d3
  have d4' : decode c.code (pc + 4) = .ok (.ldc is, 2) := by rw [hb]; exact d4
  have hstr' : vk_R own is text sa s' := vk_R.warm hW0 hstr
  obtain ⟨U, hsteps, hrun, hend, hW, hsame, ce, hce, hO⟩ := X₁.ctorThrowS hexec htr (own := own) (cls := cls) (names := names) (ic := ic) hown' hcls hnames h (fun x hx => nomatch hx) hfX hkX hcellA (by rw [hhp, hT]; exact Nat.le_refl _) (msg := .ref sa) rfl
    (g := { method := m, pc := pc + 6, locals := ls, stack := .ref sa :: .ref T.heap.size :: .ref T.heap.size :: rest, locked := none }) rfl hsize rfl rfl (rest := rest) rfl
    (by rw [hb]; exact d6) (by rw [hb]; exact d9) hout hRframes (by simp only [List.map_cons, List.sum_cons, hcat]; omega) hlocks
  obtain ⟨f1, f2⟩ := vx_frame hsame
  rw [hhp] at f1 f2
  have hWs : s.WarmedH U.vm := State.WarmedH.trans hW0 hW
  have hcl : s.vm.findClass cls = some ce.cls := by
    have h9 := hO.cls
    rw [hvm] at h9
    exact h9
  have hall : s.sameButNew ({ U with vm := s.vm } : State) locs mc ms := by
    subst hA
    obtain ⟨e1, e2⟩ := hsame
    rw [State.setFrames_setFrames] at e1
    have h2 : (T.setVm s.vm).sameButNew ({ U with vm := s.vm } : State) [] (0 + 1) (0 + 6) := ⟨e1, e2⟩
    have h3 := X.same.trans h2
    rw [List.append_nil] at h3
    exact h3.mono hc hs
  refine ⟨U, ?_, .threw T.heap.size, hrun, hend, Or.inr ⟨T.heap.size, rfl, cls, ce, locs, hx U hWs.alike f1 (fun q hq => f2 q hq (fun z hz => nomatch hz)), hce, hO.vm, hcl, hWs, hall, hf⟩⟩
  refine st1 _ ?_
  show Steps p.tables e below (T1.setTop { method := m, pc := pc + 3, locals := ls, stack := .ref T.heap.size :: rest, locked := none }) _
  jvm_step X₁.here [X₁.here.top, hexec, d3', Value.category]
  exact X₁.ldcString hexec (own := own) (text := text) (index := is) (a := sa) hown' hstr'.1 hstr'.2
    (g := { method := m, pc := pc + 4, locals := ls, stack := .ref T.heap.size :: .ref T.heap.size :: rest, locked := none }) rfl d4' _ hsteps
/-- 'throw new E("text")', the text by a wide index -/
theorem vx_throwSW {cc : ByteArray} {pc : Nat} (hexec : p.tables.exec = Jvm.exec) (hb : c.code = cc) (hl : l.stackTraces = false) {own cls text : String} {names : List String} {ik is ic mc ms sa : Nat} {A : Nat → Prop}
    (hown : s.vm.findClass own = some m.cls) (hcls : Bundle.fit cls = true) (hnames : ∀ n ∈ names, Bundle.fit n = true)
    (hk : (Cond.classLink own ik cls).before args s = true) (hini : (Cond.initialized cls).before args s = true) (hstr : vk_R own is text sa s) (hat : ∀ w ∈ vx_atS own ic cls names, w.before args s = true)
    (hgood : ∀ w ∈ Cond.classLink own ik cls :: Cond.initialized cls :: vx_atS own ic cls names, vx_ot w = true)
    (hU : vx_Zq Bundle.tN "UNASSIGNED_STACK" Bundle.steD A s s.heap) (hN : vx_Zq Bundle.tN "SUPPRESSED_SENTINEL" Bundle.listD A s s.heap) (hS : va_S A s.heap H locs) (hsize : ls.size = c.maxLocals)
    (d0 : decode cc pc = .ok (.new ik, 3)) (d3 : decode cc (pc + 3) = .ok (.dup, 1)) (d4 : decode cc (pc + 4) = .ok (.ldc_w is, 3)) (d7 : decode cc (pc + 7) = .ok (.invokespecial ic, 3)) (d10 : decode cc (pc + 10) = .ok (.athrow, 1))
    (hout : ∀ x ∈ c.exceptionTable.toList, covers x (pc + 10) = false)
    (hRframes : names.length + 3 < R.frames) (hRlocals : (rest.map fun v => v.category).sum + (13 * (names.length + 1) + 43) ≤ R.locals) (hRcells : cells + 1 ≤ R.cells) (hRslots : slots + 6 ≤ R.slots) (hlocks : meth.locks = false)
    (hx : ∀ t : State, s.vm.Alike t.vm → H.size ≤ t.heap.size → (∀ q : Nat, q < H.size → t.heap[q]? = H[q]?) → XC cls s t)
    (hf : ∀ z ∈ locs, free z.base) (hc : cells + 1 ≤ mc) (hs : slots + 6 ≤ ms) :
    W p l e R s m args below meth c H locs cells slots (vx_MQ below Qc XC args s mc ms free) (F0 m pc ls rest) := by
  intro T hT X
  have htr : e.platform.stackTraces = false := (show e.platform.stackTraces = l.stackTraces by rw [X.admits.platform]).trans hl
  have Y := vx_rebase X (R' := { frames := R.frames, locals := R.locals, cells := 1, slots := 6 }) (Nat.le_refl _) (Nat.le_refl _) hRcells hRslots
  obtain ⟨s', hA⟩ : ∃ z, z = (T.setVm s.vm).setFrames (.invoking m args :: below) := ⟨_, rfl⟩
  rw [← hA] at Y
  have hvm : s'.vm = s.vm := by rw [hA]; rfl
  have hhp : s'.heap = H := by rw [hA]; exact hT
  have hW0 : s.WarmedH s'.vm := by rw [hvm]; exact State.WarmedH.refl s
  have hat' : ∀ w ∈ vx_atS own ic cls names, w.before args s' = true := fun w hw => vx_ot_at hW0 hvm.symm (hgood w (List.mem_cons_of_mem _ (List.mem_cons_of_mem _ hw))) (hat w hw)
  have hk' : (Cond.classLink own ik cls).before args s' = true := vx_ot_at hW0 hvm.symm (hgood _ List.mem_cons_self) hk
  have hini' : (Cond.initialized cls).before args s' = true := vx_ot_at hW0 hvm.symm (hgood _ (List.mem_cons_of_mem _ List.mem_cons_self)) hini
  have hU' : vx_Zq Bundle.tN "UNASSIGNED_STACK" Bundle.steD A s' s'.heap := by rw [hhp]; exact vx_Zq.moved hW0.alike (hU.kept hS.2.1)
  have hN' : vx_Zq Bundle.tN "SUPPRESSED_SENTINEL" Bundle.listD A s' s'.heap := by rw [hhp]; exact vx_Zq.moved hW0.alike (hN.kept hS.2.1)
  have h : ∀ w ∈ Bundle.ownAtoms own ic cls names, w.before args s' = true := vx_own hat' (vx_isRefq hU'.1) (vx_isRefq hN'.1) hU'.2.word hN'.2.word
  have hown' : s'.vm.findClass own = some m.cls := by rw [hvm]; exact hown
  have hins : (Cond.instantiable cls 6).before args s' = true := h _ (by simp [Bundle.ownAtoms])
  obtain ⟨vm₁, cX, kX, hfX, hkX, -, -, X₁, st1⟩ := Y.newCold hexec (own := own) (C := cls) (index := ik) (n := 6) hown' hk' hins hini'
    (g := F0 m pc ls rest) rfl (by rw [hb]; exact d0) (Nat.le_refl _) (Nat.le_refl _)
  generalize hT1 : (T.setVm vm₁).pushCell { cls := cX, slots := kX.instanceTypes.map defaultValue, vm := .none } = T1 at X₁ st1
  have hcat : (Value.ref T.heap.size).category = 1 := rfl
  have hcellA : T1.heap[T.heap.size]? = some (freshCell cX kX) := by rw [← hT1]; exact State.heap_pushCell_size _ _
  have d3' : decode c.code (pc + 3) = .ok (.dup, 1) := by rw [hb]; exact d3
  have d4' : decode c.code (pc + 4) = .ok (.ldc_w is, 3) := by rw [hb]; exact d4
  have hstr' : vk_R own is text sa s' := vk_R.warm hW0 hstr
  obtain ⟨U, hsteps, hrun, hend, hW, hsame, ce, hce, hO⟩ := X₁.ctorThrowS hexec htr (own := own) (cls := cls) (names := names) (ic := ic) hown' hcls hnames h (fun x hx => nomatch hx) hfX hkX hcellA (by rw [hhp, hT]; exact Nat.le_refl _) (msg := .ref sa) rfl
    (g := { method := m, pc := pc + 7, locals := ls, stack := .ref sa :: .ref T.heap.size :: .ref T.heap.size :: rest, locked := none }) rfl hsize rfl rfl (rest := rest) rfl
    (by rw [hb]; exact d7) (by rw [hb]; exact d10) hout hRframes (by simp only [List.map_cons, List.sum_cons, hcat]; omega) hlocks
  obtain ⟨f1, f2⟩ := vx_frame hsame
  rw [hhp] at f1 f2
  have hWs : s.WarmedH U.vm := State.WarmedH.trans hW0 hW
  have hcl : s.vm.findClass cls = some ce.cls := by
    have h9 := hO.cls
    rw [hvm] at h9
    exact h9
  have hall : s.sameButNew ({ U with vm := s.vm } : State) locs mc ms := by
    subst hA
    obtain ⟨e1, e2⟩ := hsame
    rw [State.setFrames_setFrames] at e1
    have h2 : (T.setVm s.vm).sameButNew ({ U with vm := s.vm } : State) [] (0 + 1) (0 + 6) := ⟨e1, e2⟩
    have h3 := X.same.trans h2
    rw [List.append_nil] at h3
    exact h3.mono hc hs
  refine ⟨U, ?_, .threw T.heap.size, hrun, hend, Or.inr ⟨T.heap.size, rfl, cls, ce, locs, hx U hWs.alike f1 (fun q hq => f2 q hq (fun z hz => nomatch hz)), hce, hO.vm, hcl, hWs, hall, hf⟩⟩
  refine st1 _ ?_
  show Steps p.tables e below (T1.setTop { method := m, pc := pc + 3, locals := ls, stack := .ref T.heap.size :: rest, locked := none }) _
  jvm_step X₁.here [X₁.here.top, hexec, d3', Value.category]
  exact X₁.ldcStringW hexec (own := own) (text := text) (index := is) (a := sa) hown' hstr'.1 hstr'.2
    (g := { method := m, pc := pc + 4, locals := ls, stack := .ref T.heap.size :: .ref T.heap.size :: rest, locked := none }) rfl d4' _ hsteps
end Ends
section Bodies
variable {l : Launch}
theorem vx_ofW {y : MethodName} {ws ws' : List Cond} {rm : Room} {Pc : Array Value → State → Prop} {Qc : Array Value → State → Outcome → State → Prop} {XC : String → State → State → Prop} {mc ms : Nat} {free : Addr → Prop} {cc : ByteArray} {maxL : Nat} {ret : Option FieldType}
    (hy : plainName y.cls = true) (hw : ws = Cond.code y cc maxL ret :: ws')
    (body : ∀ p e s m args below meth c s₁, BodyLoose p l y (headSpec ws rm) cc maxL ret e s m args below meth c s₁ → c.maxLocals = maxL → (∀ x ∈ c.exceptionTable.toList, False) → Pc args s →
      W p l e (headSpec ws rm).room s m args below meth c s.heap [] 0 0 (vx_MQ below Qc XC args s mc ms free) (entryFrame m args maxL)) : vx_Met l y ws rm Pc Qc XC mc ms free := by
  refine MetFree.of_bodyS (code := cc) (maxLocals := maxL) (ret := ret) hy ?_ ?_
  · intro args s m h hn
    obtain ⟨meth, c, h1, h2, h3, h4, h5, h6, -, -⟩ := Cond.code_spec hn (atoms_spec (ws := ws) h _ (by rw [hw]; exact List.mem_cons_self))
    exact ⟨meth, c, h1, h2, h3, h4, h5, h6⟩
  · intro p e s m args below meth c s₁ B hml hP _
    have hh0 : s₁.heap = s.heap := by rw [B.state]; rfl
    have ht : ∀ x ∈ c.exceptionTable.toList, False := by
      obtain ⟨meth9, c9, h1, h2, -, -, -, -, h7, -⟩ := Cond.code_spec B.named (atoms_spec (ws := ws) B.pre _ (by rw [hw]; exact List.mem_cons_self))
      cases Option.some.inj (h1.symm.trans B.method)
      cases Option.some.inj (h2.symm.trans (Stand.of_body B).code)
      intro x hx
      rw [Array.isEmpty_iff.mp h7] at hx
      cases hx
    obtain ⟨t, a1, o, b1, b2, b3⟩ := body p e s m args below meth c s₁ B hml ht hP s₁ hh0 (Stand.of_body B)
    exact ⟨t, o, a1, b1, b2, b3⟩
/-- the table of a body with handlers -/
theorem vx_table {p : Program} {x y : MethodName} {S : Spec} {cc bytes : ByteArray} {maxL maxL' : Nat} {ret ret' : Option FieldType} {e : Env} {s s₁ : State} {m : MethodId} {args : Array Value} {below : List Frame} {meth : Method} {c : Code} {hh : List (Nat × Nat × Nat × Nat)}
    (B : BodyLoose p l y S cc maxL ret e s m args below meth c s₁) (h : (Cond.codeWith y bytes maxL' ret' hh).before args s = true) : c.exceptionTable.toList = tableOf hh := by
  obtain ⟨m9, meth9, c9, hn9, h1, h2, -, -, h6, -⟩ := Cond.codeWith_spec h
  cases Option.some.inj (hn9.symm.trans B.named)
  cases Option.some.inj (h1.symm.trans B.method)
  cases Option.some.inj (h2.symm.trans (Stand.of_body B).code)
  rw [← h6, table_eq]
end Bodies
end VXA
/-! ===== END ===== -/
/-! ===== BEGIN a static call of a method with an exception table ===== -/
section VXS
variable {p : Program} {l : Launch} {e : Env} {R : Room} {s : State} {m : MethodId} {args : Array Value} {below : List Frame} {meth : Method} {c : Code} {T : State} {H : Heap} {locs : List Loc} {cells slots : Nat}
abbrev vx_CSW (R : Room) (s : State) (args : Array Value) (own : String) (index : Nat) (y : MethodName) (bytes : ByteArray) (maxL : Nat) (ret : Option FieldType) (hh : List (Nat × Nat × Nat × Nat)) (ws : List Cond) (rm : Room) (mc ms n : Nat) : Prop :=
  (rm.cells = mc ∧ rm.slots = ms ∧ rm.frames + 1 ≤ R.frames ∧ 8 + (maxL + 11) + rm.locals ≤ R.locals ∧ (∀ w ∈ ws, ∀ (a' : Array Value) (U : State), s.WarmedH U.vm → w.before a' U = true) ∧ Cond.codeWith y bytes maxL ret hh ∈ ws) ∧
  (Cond.codeWith y bytes maxL ret hh).before args s = true ∧ (Cond.initialized y.cls).before args s = true ∧ (y.cls ≠ "java/lang/invoke/MethodHandle" ∧ y.cls ≠ "java/lang/invoke/VarHandle") ∧
  (∀ sig, parseMethodDescriptor y.desc = some sig → n = sig.parameters.length) ∧ (Cond.methodLink own index y).before args s = true ∧ (Cond.static y).before args s = true
theorem vx_cwSW {own : String} {index maxL mc ms : Nat} {y : MethodName} {bytes : ByteArray} {ret : Option FieldType} {hh : List (Nat × Nat × Nat × Nat)} {Ts ws ws' : List Cond} {rm : Room} (n : Nat) (ht : ∀ w ∈ Ts, w.before args s = true) (hT : GoodIn Ts (va_wsS own index y ws)) (hw : ws = Cond.codeWith y bytes maxL ret hh :: ws') (hrc : rm.cells = mc) (hrs : rm.slots = ms)
    (hd : y.cls ≠ "java/lang/invoke/MethodHandle" ∧ y.cls ≠ "java/lang/invoke/VarHandle" ∧ (parseMethodDescriptor y.desc).map (fun d => d.parameters.length) = some n) (hR : rm.frames + 1 ≤ R.frames ∧ 8 + (maxL + 11) + rm.locals ≤ R.locals) :
    vx_CSW R s args own index y bytes maxL ret hh ws rm mc ms n := by
  have ok : ∀ w ∈ va_wsS own index y ws, w.before args s = true := fun w h => ht w (hT w h).1
  have hG : GoodIn Ts ws := fun w h => hT w (by unfold va_wsS; exact List.mem_append_right _ h)
  have hc : Cond.codeWith y bytes maxL ret hh ∈ ws := by rw [hw]; exact List.mem_cons_self
  refine ⟨⟨hrc, hrs, hR.1, hR.2, pay_in ht hG, hc⟩, ht _ (hG _ hc).1, ok _ (by simp [va_wsS]), ⟨hd.1, hd.2.1⟩, fun sig h => ?_, ok _ (by simp [va_wsS]), ok _ (by simp [va_wsS])⟩
  have h2 := hd.2.2
  rw [h] at h2
  exact (Option.some.inj h2).symm
theorem vx_callSW (X : Stand p l e R s m args below meth c T locs cells slots) (hexec : p.tables.exec = Jvm.exec) {own : String} {index : Nat} {y : MethodName} {bytes : ByteArray} {maxL : Nat} {ret : Option FieldType} {hh : List (Nat × Nat × Nat × Nat)}
    (hown : s.vm.findClass own = some m.cls) (hlink : (Cond.methodLink own index y).before args s = true) (hstat : (Cond.static y).before args s = true) (hinit : (Cond.initialized y.cls).before args s = true)
    (hcode : (Cond.codeWith y bytes maxL ret hh).before args s = true) (hy : y.cls ≠ "java/lang/invoke/MethodHandle" ∧ y.cls ≠ "java/lang/invoke/VarHandle")
    {W9 : Nat} {Pre : Pt → Array Value → Prop} {Post : Pt → Array Value → Option Value → Pt → Prop} (hK : Back l R p e below s args y 3 W9 Pre Post)
    {g : JFrame} (hg : g.method = m) (hsize : g.locals.size = c.maxLocals) {argsL rest : List Value} (hlen : ∀ sig, parseMethodDescriptor y.desc = some sig → argsL.length = sig.parameters.length)
    (hstack : g.stack = argsL.reverse ++ rest) (hW : 2 * g.monitorRoom + (rest.map fun v => v.category).sum ≤ W9) (hdg : decode c.code g.pc = .ok (.invokestatic index, 3))
    (hpre : ∀ vm₁, s.WarmedH vm₁ → Pre ⟨T.setVm vm₁, locs, cells, slots⟩ argsL.toArray) :
    ∃ (v : Option Value) (vm₁ : Vm) (B : Pt), s.WarmedH vm₁ ∧ Stand p l e R s m args below meth c B.U B.locs B.cells B.slots ∧ Post ⟨T.setVm vm₁, locs, cells, slots⟩ argsL.toArray v B ∧
      ∀ target, Steps p.tables e below (B.U.setTop { g with pc := g.pc + 3, stack := v.toList ++ rest }) target → Steps p.tables e below (T.setTop g) target := by
  obtain ⟨mk, methM, cM, hnamed, hmethM, -, -, -, -, -, -, hsigM⟩ := Cond.codeWith_spec hcode
  have hstatic : methM.isStatic = true := Cond.static_spec hnamed hmethM hstat
  obtain ⟨kP, hkP, -⟩ := className_of_methodNamed hnamed
  have hinitP : kP.init = .initialized := Cond.initialized_spec (findClass_of_methodNamed hnamed) hkP hinit
  obtain ⟨vm₁, X₁, hstep₁⟩ := X.invokestatic hexec hown hlink hnamed hmethM hstatic hkP hinitP hy (g := g) hg (argsL := argsL) (rest := rest) (hlen _ hsigM) hstack hdg
  obtain ⟨v, B, X', hpost, hsteps⟩ := hK m meth c ⟨T.setVm vm₁, locs, cells, slots⟩ { g with stack := rest } (.invokestatic index) mk argsL.toArray X₁ hg hsize hdg hW (X₁.named hnamed) (hpre vm₁ X₁.warmed)
  exact ⟨v, vm₁, B, X₁.warmed, X', hpost, fun target h => hstep₁ _ fun acts => by rw [doInvoke_state]; exact hsteps.trans h⟩
theorem vx_runSW {y : MethodName} {bytes cc : ByteArray} {maxL nL mc ms n index : Nat} {ret : Option FieldType} {hh : List (Nat × Nat × Nat × Nat)} {ws : List Cond} {rm : Room} {Pc : Array Value → State → Prop} {Qc : Array Value → State → Outcome → State → Prop} {free : Addr → Prop} {Ts : List Cond} {own : String} {As rest : List Value} {g : JFrame}
    (S : CallFix p m c cc nL s args Ts own) (hM : Met l y ws rm Pc Qc mc ms free) (cw : vx_CSW R s args own index y bytes maxL ret hh ws rm mc ms n) (hp : PreS s H Pc As)
    (hg : g.method = m) (hn : As.length = n) (hsize : g.locals.size = nL) (hstack : g.stack = As.reverse ++ rest) (hW : 2 * g.monitorRoom + (rest.map fun v => v.category).sum ≤ 8) (hdg : decode cc g.pc = .ok (.invokestatic index, 3)) (hf : cells + mc ≤ R.cells ∧ slots + ms ≤ R.slots) :
    va_Run p l e R s m args below meth c H locs cells slots mc ms g rest (Qc As.toArray) (free) := by
  obtain ⟨⟨hrc, hrs, hfr, hlo, hws, hcw⟩, hcode, hini, hy, hlen, hl, hstt⟩ := cw
  have hK : Back l R p e below s args y 3 8 (PreOf R mc ms Pc) (PostOf Qc mc ms free) := va_backW (hh := hh) (bytes := bytes) (maxL := maxL) (ret := ret) hM hp.1 hrc hrs hfr hlo hws hcw (fun a' U hW => word_at hW (Or.inl (by first | rfl | simp [Cond.onTables, Cond.keeps, Cond.steady])) hini)
  obtain ⟨hx, hb, hml, ho, -⟩ := S
  intro T hT X
  obtain ⟨v, vm₁, ⟨U', l2, c2, s2⟩, hW₁, X', ⟨g', mk, t, L, e1, e2, hq, h1, hL, h2, h3⟩, st⟩ := vx_callSW X hx (hh := hh) (bytes := bytes) (maxL := maxL) (ret := ret) ho hl hstt hini hcode hy hK hg (hsize.trans hml.symm) (argsL := As) (rest := rest) (fun sig h => hn.trans (hlen sig h)) hstack hW (by rw [hb]; exact hdg)
    (fun vm₁ hW₁ => ⟨hf.1, hf.2, hp.2 (T.setVm vm₁) hT hW₁⟩)
  dsimp only [Pt.U, Pt.locs, Pt.cells, Pt.slots] at X' e1 e2 h1 h2 h3 st
  subst h1; subst h2; subst h3
  exact ⟨v, (T.setVm vm₁).calling g' mk As.toArray, t, U', L, hT, X', hL, e1, e2, hq, st⟩
/-- not caught here, past rows that name other classes: it goes on to the caller -/
theorem vx_outP {p : Program} {l : Launch} {e : Env} {R : Room} {s : State} {m : MethodId} {args : Array Value} {below : List Frame} {meth : Method} {c : Code} {H : Heap} {locs : List Loc} {cells slots : Nat} {free : Addr → Prop} {ls : Array Slot} {rest : List Value} {Qc : Array Value → State → Outcome → State → Prop} {XC : String → State → State → Prop}
    {pc : Nat} {own E : String} {ce : Cell} {q : Addr} {mc ms : Nat} (hown : s.vm.findClass own = some m.cls) (hlocks : meth.locks = false)
    (hpass : ∀ z ∈ c.exceptionTable.toList, covers z pc = false ∨ (z.catchType ≠ 0 ∧ ∃ nm : String, (Cond.classLink own z.catchType nm).before args s = true ∧ va_Nc E nm s)) (hcell : H[q]? = some ce) (hv : ce.vm = .none) (hcl : s.vm.findClass E = some ce.cls)
    (hx : ∀ t : State, t.heap = H → s.vm.Alike t.vm → XC E s t) (hf : ∀ z ∈ locs, free z.base) (hc : cells ≤ mc) (hs : slots ≤ ms) :
    vx_W p l e R s m args below meth c H locs cells slots (vx_MQ below Qc XC args s mc ms free) (F0 m pc ls rest) q := by
  intro T hT X
  have hpl : e.platform.magicAccessors = ({} : Platform).magicAccessors := by rw [X.admits.platform]
  obtain ⟨vm', hW', X', st⟩ := X.outThrough hlocks q (g := F0 m pc ls rest) rfl rfl rfl (cell := ce) (by rw [hT]; exact hcell) (by rw [hv]; rfl)
    (by obtain ⟨k9, h9, -⟩ := Vm.findClass_spec hcl; exact ⟨k9, h9⟩) (fun z hz => by
      rcases hpass z hz with h | ⟨hz0, nm, hl1, hn1⟩
      · exact Or.inl h
      · obtain ⟨c6, hc6, hcl6⟩ := Cond.classLink_spec hown hl1 e.platform hpl
        obtain ⟨a8, b8, h1, h2, h3⟩ := hn1
        cases Option.some.inj (h1.symm.trans hcl)
        cases Option.some.inj (h2.symm.trans hc6)
        exact Or.inr ⟨hz0, _, hcl6, h3⟩)
  obtain ⟨g₀, hfr⟩ := X'.frames_eq
  have hcell9 : ((T.setVm vm').setFrames (.throwing q :: below)).heap[q]? = some ce := by
    show T.heap[q]? = some ce
    rw [hT]; exact hcell
  have hend : Ended ((T.setVm vm').setFrames (.throwing q :: below)) below (.threw q) := State.frames_setFrames _ (State.cur_lt_of_frames hfr)
  refine ⟨(T.setVm vm').setFrames (.throwing q :: below), ?_, .threw q, X'.here.running, hend, Or.inr ⟨q, rfl, E, ce, locs, hx _ hT (X'.ends _).1.alike, hcell9, hv, hcl, (X'.ends _).1, (X'.ends _).2.mono hc hs, hf⟩⟩
  rw [X.pushThrowing_eq]
  exact st
/-- a thing of a world lies in the heap -/
theorem vx_lt {D : va_G} {cl : List vw_C} {ws : va_W} {H1 : Heap} (h : va_P D cl ws H1) {k : Nat} {q : Nat × va_E} (hk : ws[k]? = some q) : q.1 < H1.size := (h k q hk).lt
end VXS
/-! ===== END ===== -/
/-! ===== BEGIN methods with a table of their own: called by a name, returning or throwing ===== -/
section VXH
/-! vx_backW, vx_callVX, vx_callSX, vx_callVW, vx_runVW, vx_runVX, vx_runSX, vx_ofWH follow the same proofs as their sisters above (Free/Laws.lean, Shelf42/LK1.lean); vx_outP calls Shelf42/NT130.lean (outThrough). -/
section
variable {l : Launch} {R : Room} {p : Program} {e : Env} {below : List Frame} {s : State} {sargs : Array Value} {y : MethodName} {len W9 : Nat}
theorem vx_backW {ws : List Cond} {rm : Room} {Pc : Array Value → State → Prop} {Qc : Array Value → State → Outcome → State → Prop} {XC : String → State → State → Prop} {mc ms : Nat} {free : Addr → Prop} {bytes : ByteArray} {maxL : Nat} {ret : Option FieldType} {hh : List (Nat × Nat × Nat × Nat)}
    (hM : vx_Met l y ws rm Pc Qc XC mc ms free) (hblind : FrameBlind Pc) (hrc : rm.cells = mc) (hrs : rm.slots = ms)
    (hframes : rm.frames + 1 ≤ R.frames) (hlocals : W9 + (maxL + 11) + rm.locals ≤ R.locals)
    (hws : ∀ w ∈ ws, ∀ a' U, s.WarmedH U.vm → w.before a' U = true) (hcode : Cond.codeWith y bytes maxL ret hh ∈ ws) (hinit : ∀ a' U, s.WarmedH U.vm → (Cond.initialized y.cls).before a' U = true) :
    vx_Back l R p e below s sargs y len W9 (PreOf R mc ms Pc) (PostOf Qc mc ms free) (vx_Post XC mc ms free) := by
  intro m meth c A g ig mk a X hg hsize hdg hW hn hp
  have h1 : (headSpec ws rm).pre.before a A.U = true := atoms_intro fun w hw => hws w hw _ _ X.warmed
  have h2 : (Cond.codeWith y bytes maxL ret hh).before a A.U = true := hws _ hcode _ _ X.warmed
  have h3 : (Cond.initialized y.cls).before a A.U = true := hinit _ _ X.warmed
  have h4 : A.cells + (headSpec ws rm).room.cells ≤ R.cells := by rw [show (headSpec ws rm).room.cells = mc from hrc]; exact hp.1
  have h5 : A.slots + (headSpec ws rm).room.slots ≤ R.slots := by rw [show (headSpec ws rm).room.slots = ms from hrs]; exact hp.2.1
  have hPc : Pc a (A.U.calling g mk a) := hblind _ _ _ _ hp.2.2
  obtain ⟨U, Ls, c0, s0⟩ := A
  dsimp only [Pt.U, Pt.locs, Pt.cells, Pt.slots] at h1 h2 h3 h4 h5 X hn hPc ⊢
  obtain ⟨m9, methY, cY, hn9, hmY, hcY, -, hlY, -⟩ := Cond.codeWith_spec h2
  cases Option.some.inj (hn9.symm.trans hn)
  obtain ⟨kY, hkY, -⟩ := className_of_methodNamed hn
  have hinitY : kY.init = .initialized := Cond.initialized_spec (findClass_of_methodNamed hn) hkY h3
  have h : At U g.method c below := by rw [hg]; exact X.here
  have hlocals9 : W9 + (maxL + 11) + (headSpec ws rm).room.locals ≤ R.locals := hlocals
  have happ : (headSpec ws rm).appliesLoose y e.platform (U.calling g mk a) = true :=
    Spec.appliesLoose_calling (g := g) h hdg hn hkY hinitY
      (X.room_calling (g := g) (R' := (headSpec ws rm).room) hsize hmY hcY hframes (by rw [hlY]; omega) h4 h5) h1
  obtain ⟨mid, hmid⟩ := h.above
  have hfr : (U.setTop g).frames = (.java g :: mid) ++ below := by rw [State.frames_setTop' g h.top, hmid]; rfl
  obtain ⟨o, s₂, hsteps, -, hend, hq⟩ := Steps.callFree hM p X.admits X.cas X.clock (acts := []) hfr happ hPc trivial
  have hq' : vx_Q Qc XC mc ms free a (U.calling g mk a) o s₂ := hq
  rw [State.frames_setTop' g h.top] at hend
  obtain ⟨g₀, hg0⟩ := Option.isSome_iff_exists.mp h.top
  obtain ⟨r, hr⟩ := State.topJava?_eq_some.mp hg0
  have hr' : (({ U with heap := s₂.heap, slotsUsed := s₂.slotsUsed } : State).setVm s₂.vm).frames = .java g₀ :: r := hr
  rcases hq' with ⟨hqc, L, hfe, hL⟩ | ⟨q, rfl, E, ce, L, hx, hce, hcv, hcl, hW₂, hsm, hL⟩
  · obtain ⟨⟨v, rfl⟩, hW₂, e2, q2, q3, q4, q5, q6⟩ := id hfe
    have e3 : s₂ = ({ (U.calling g mk a).setFrames s₂.frames with heap := s₂.heap, slotsUsed := s₂.slotsUsed } : State).setVm s₂.vm := by
      have : s₂ = ({ s₂ with vm := (U.calling g mk a).vm } : State).setVm s₂.vm := rfl
      rw [e2] at this
      exact this
    obtain ⟨c₂, i₂, len₂, hc₂, hd₂, hf₂⟩ := hend
    have hW' : U.WarmedH s₂.vm := hW₂
    have hcc : c₂ = c := by
      have h1 : s₂.code? g.method = U.code? g.method := by
        rw [State.code?_eq, State.code?_eq, hW'.alike.method?]
      exact Option.some.inj (hc₂.symm.trans (h1.trans h.code))
    subst hcc
    have hlen : len₂ = len := by rw [hdg] at hd₂; cases hd₂; rfl
    subst hlen
    have hs₂ : s₂ = (({ U with heap := s₂.heap, slotsUsed := s₂.slotsUsed } : State).setVm s₂.vm).setTop { g with pc := g.pc + len₂, stack := v.toList ++ g.stack } := by
      refine e3.trans ?_
      rw [hf₂, State.calling_eq h.top, State.setFrames_setFrames, State.setTop_of_frames _ hr', hr]
      rfl
    have hsame : U.sameButNew ({ U with heap := s₂.heap, slotsUsed := s₂.slotsUsed } : State) L mc ms := by
      refine ⟨?_, q2, q3, q4, q5, q6⟩
      obtain ⟨t, ht, -⟩ := State.frames_cons hr
      show ({ U with heap := s₂.heap, slotsUsed := s₂.slotsUsed } : State) = { U.setFrames U.frames with heap := s₂.heap, slotsUsed := s₂.slotsUsed }
      rw [State.setFrames_self ht]
    subst hg
    refine Or.inl ⟨v, ⟨(({ U with heap := s₂.heap, slotsUsed := s₂.slotsUsed } : State).setVm s₂.vm), Ls ++ L, c0 + mc, s0 + ms⟩,
      ⟨X.admits, X.cas, X.clock, X.frames, X.room, X.hears, X.method, X.code, (X.here.setHeapUsed s₂.heap s₂.slotsUsed).setVm hW'.alike, X.tail, State.WarmedH.trans X.warmed hW', X.limits, X.bytes, X.same.trans (hsame.setVm s.vm)⟩,
      ⟨g, mk, s₂, L, rfl, rfl, hqc, rfl, hL, rfl, rfl⟩, ?_⟩
    show Steps p.tables e below _ ((({ U with heap := s₂.heap, slotsUsed := s₂.slotsUsed } : State).setVm s₂.vm).setTop { g with pc := g.pc + len₂, stack := v.toList ++ g.stack })
    rw [← hs₂]
    exact hsteps
  · obtain ⟨e2, q2, q3, q4, q5, q6⟩ := id hsm
    have e3 : s₂ = ({ (U.calling g mk a).setFrames s₂.frames with heap := s₂.heap, slotsUsed := s₂.slotsUsed } : State).setVm s₂.vm := by
      have : s₂ = ({ s₂ with vm := (U.calling g mk a).vm } : State).setVm s₂.vm := rfl
      rw [e2] at this
      exact this
    have hf₂ : s₂.frames = .throwing q :: .java g :: U.frames.tail := hend
    have hW' : U.WarmedH s₂.vm := hW₂
    have hs₂ : s₂ = ((({ U with heap := s₂.heap, slotsUsed := s₂.slotsUsed } : State).setVm s₂.vm).setTop g).pushFrame (.throwing q) := by
      refine e3.trans ?_
      rw [hf₂, State.calling_eq h.top, State.setFrames_setFrames, State.pushFrame, State.frames_setTop _ hr', State.setTop_of_frames _ hr', State.setFrames_setFrames, hr]
      rfl
    have hsame : U.sameButNew ({ U with heap := s₂.heap, slotsUsed := s₂.slotsUsed } : State) L mc ms := by
      refine ⟨?_, q2, q3, q4, q5, q6⟩
      obtain ⟨t, ht, -⟩ := State.frames_cons hr
      show ({ U with heap := s₂.heap, slotsUsed := s₂.slotsUsed } : State) = { U.setFrames U.frames with heap := s₂.heap, slotsUsed := s₂.slotsUsed }
      rw [State.setFrames_self ht]
    subst hg
    refine Or.inr ⟨q, ⟨(({ U with heap := s₂.heap, slotsUsed := s₂.slotsUsed } : State).setVm s₂.vm), Ls ++ L, c0 + mc, s0 + ms⟩,
      ⟨X.admits, X.cas, X.clock, X.frames, X.room, X.hears, X.method, X.code, (X.here.setHeapUsed s₂.heap s₂.slotsUsed).setVm hW'.alike, X.tail, State.WarmedH.trans X.warmed hW', X.limits, X.bytes, X.same.trans (hsame.setVm s.vm)⟩,
      ⟨g, mk, s₂, L, E, ce, rfl, rfl, hx, hce, hcv, hcl, rfl, hL, rfl, rfl⟩, ?_⟩
    show Steps p.tables e below _ (((({ U with heap := s₂.heap, slotsUsed := s₂.slotsUsed } : State).setVm s₂.vm).setTop g).pushFrame (.throwing q))
    rw [← hs₂]
    exact hsteps
end
variable {p : Program} {l : Launch} {e : Env} {R : Room} {s : State} {m : MethodId} {args : Array Value} {below : List Frame} {meth : Method} {c : Code} {T : State} {H : Heap} {locs : List Loc} {cells slots : Nat}
theorem vx_callVX (X : Stand p l e R s m args below meth c T locs cells slots) (hexec : p.tables.exec = Jvm.exec) {own C : String} {index : Nat} {y : MethodName} {bytes : ByteArray} {maxL : Nat} {ret : Option FieldType} {hh : List (Nat × Nat × Nat × Nat)}
    (hown : s.vm.findClass own = some m.cls) (hlink : (Cond.methodLink own index y).before args s = true) (hinst : (Cond.instanceMethod y).before args s = true) (hsel : (Cond.selects C y y).before args s = true)
    (hcode : (Cond.codeWith y bytes maxL ret hh).before args s = true) (hy : y.cls ≠ "java/lang/invoke/MethodHandle" ∧ y.cls ≠ "java/lang/invoke/VarHandle")
    {W9 : Nat} {Pre : Pt → Array Value → Prop} {Post : Pt → Array Value → Option Value → Pt → Prop} {PostX : Pt → Array Value → Addr → Pt → Prop} (hK : vx_Back l R p e below s args y 3 W9 Pre Post PostX)
    {b : Addr} {cellB : Cell} (hcell : T.heap[b]? = some cellB) (hobj : cellB.vm.isStatics = false) (hcls : s.vm.findClass C = some cellB.cls)
    {g : JFrame} (hg : g.method = m) (hsize : g.locals.size = c.maxLocals) {argsL rest : List Value} (hlen : ∀ sig, parseMethodDescriptor y.desc = some sig → argsL.length = sig.parameters.length)
    (hstack : g.stack = argsL.reverse ++ .ref b :: rest) (hW : 2 * g.monitorRoom + (rest.map fun v => v.category).sum ≤ W9) (hdg : decode c.code g.pc = .ok (.invokevirtual index, 3))
    (hpre : ∀ vm₁, s.WarmedH vm₁ → Pre ⟨T.setVm vm₁, locs, cells, slots⟩ (Value.ref b :: argsL).toArray) :
    (∃ (v : Option Value) (vm₁ : Vm) (B : Pt), s.WarmedH vm₁ ∧ Stand p l e R s m args below meth c B.U B.locs B.cells B.slots ∧ Post ⟨T.setVm vm₁, locs, cells, slots⟩ (Value.ref b :: argsL).toArray v B ∧
      ∀ target, Steps p.tables e below (B.U.setTop { g with pc := g.pc + 3, stack := v.toList ++ rest }) target → Steps p.tables e below (T.setTop g) target) ∨
    (∃ (q : Addr) (vm₁ : Vm) (B : Pt), s.WarmedH vm₁ ∧ Stand p l e R s m args below meth c B.U B.locs B.cells B.slots ∧ PostX ⟨T.setVm vm₁, locs, cells, slots⟩ (Value.ref b :: argsL).toArray q B ∧
      Steps p.tables e below (T.setTop g) ((B.U.setTop { g with stack := rest }).pushFrame (.throwing q))) := by
  obtain ⟨mk, methM, hnamed, hmethM, hstM, habM⟩ := Cond.instanceMethod_spec hinst
  obtain ⟨m8, methM', cM, hn8, hmethM', -, -, -, -, -, -, hsigM⟩ := Cond.codeWith_spec hcode
  cases Option.some.inj (hn8.symm.trans hnamed)
  cases hmethM.symm.trans hmethM'
  obtain ⟨c2, r2, m2, q1, q2, q3, q4, kP, hkP, hkPi⟩ := Cond.selects_spec hsel
  cases hcls.symm.trans q1
  cases (State.methodFound?_of_named hnamed hy).symm.trans q2
  cases hnamed.symm.trans q3
  have hselP : selectMethod e.platform s.vm cellB.cls mk = .method mk := by rw [Launch.admits_selectMethod X.admits]; exact q4
  obtain ⟨vm₁, X₁, hstep₁⟩ := X.invokevirtual hexec hown hlink hnamed hmethM hstM hkP hkPi hy (a := b) (cell := cellB) hcell
    (fun z h => by rw [h] at hobj; cases hobj) hselP hmethM habM hkP hkPi (g := g) hg (argsL := argsL) (rest := rest) (hlen _ hsigM) hstack hdg
  rcases hK m meth c ⟨T.setVm vm₁, locs, cells, slots⟩ { g with stack := rest } (.invokevirtual index) mk (Value.ref b :: argsL).toArray X₁ hg hsize hdg hW (X₁.named hnamed) (hpre vm₁ X₁.warmed) with ⟨v, B, X', hpost, hsteps⟩ | ⟨q, B, X', hpost, hsteps⟩
  · exact Or.inl ⟨v, vm₁, B, X₁.warmed, X', hpost, fun target h => hstep₁ _ fun acts => by rw [doInvoke_state]; exact hsteps.trans h⟩
  · exact Or.inr ⟨q, vm₁, B, X₁.warmed, X', hpost, hstep₁ _ fun acts => by rw [doInvoke_state]; exact hsteps⟩
theorem vx_callSX (X : Stand p l e R s m args below meth c T locs cells slots) (hexec : p.tables.exec = Jvm.exec) {own : String} {index : Nat} {y : MethodName} {bytes : ByteArray} {maxL : Nat} {ret : Option FieldType} {hh : List (Nat × Nat × Nat × Nat)}
    (hown : s.vm.findClass own = some m.cls) (hlink : (Cond.methodLink own index y).before args s = true) (hstat : (Cond.static y).before args s = true) (hinit : (Cond.initialized y.cls).before args s = true)
    (hcode : (Cond.codeWith y bytes maxL ret hh).before args s = true) (hy : y.cls ≠ "java/lang/invoke/MethodHandle" ∧ y.cls ≠ "java/lang/invoke/VarHandle")
    {W9 : Nat} {Pre : Pt → Array Value → Prop} {Post : Pt → Array Value → Option Value → Pt → Prop} {PostX : Pt → Array Value → Addr → Pt → Prop} (hK : vx_Back l R p e below s args y 3 W9 Pre Post PostX)
    {g : JFrame} (hg : g.method = m) (hsize : g.locals.size = c.maxLocals) {argsL rest : List Value} (hlen : ∀ sig, parseMethodDescriptor y.desc = some sig → argsL.length = sig.parameters.length)
    (hstack : g.stack = argsL.reverse ++ rest) (hW : 2 * g.monitorRoom + (rest.map fun v => v.category).sum ≤ W9) (hdg : decode c.code g.pc = .ok (.invokestatic index, 3))
    (hpre : ∀ vm₁, s.WarmedH vm₁ → Pre ⟨T.setVm vm₁, locs, cells, slots⟩ argsL.toArray) :
    (∃ (v : Option Value) (vm₁ : Vm) (B : Pt), s.WarmedH vm₁ ∧ Stand p l e R s m args below meth c B.U B.locs B.cells B.slots ∧ Post ⟨T.setVm vm₁, locs, cells, slots⟩ argsL.toArray v B ∧
      ∀ target, Steps p.tables e below (B.U.setTop { g with pc := g.pc + 3, stack := v.toList ++ rest }) target → Steps p.tables e below (T.setTop g) target) ∨
    (∃ (q : Addr) (vm₁ : Vm) (B : Pt), s.WarmedH vm₁ ∧ Stand p l e R s m args below meth c B.U B.locs B.cells B.slots ∧ PostX ⟨T.setVm vm₁, locs, cells, slots⟩ argsL.toArray q B ∧
      Steps p.tables e below (T.setTop g) ((B.U.setTop { g with stack := rest }).pushFrame (.throwing q))) := by
  obtain ⟨mk, methM, cM, hnamed, hmethM, -, -, -, -, -, -, hsigM⟩ := Cond.codeWith_spec hcode
  have hstatic : methM.isStatic = true := Cond.static_spec hnamed hmethM hstat
  obtain ⟨kP, hkP, -⟩ := className_of_methodNamed hnamed
  have hinitP : kP.init = .initialized := Cond.initialized_spec (findClass_of_methodNamed hnamed) hkP hinit
  obtain ⟨vm₁, X₁, hstep₁⟩ := X.invokestatic hexec hown hlink hnamed hmethM hstatic hkP hinitP hy (g := g) hg (argsL := argsL) (rest := rest) (hlen _ hsigM) hstack hdg
  rcases hK m meth c ⟨T.setVm vm₁, locs, cells, slots⟩ { g with stack := rest } (.invokestatic index) mk argsL.toArray X₁ hg hsize hdg hW (X₁.named hnamed) (hpre vm₁ X₁.warmed) with ⟨v, B, X', hpost, hsteps⟩ | ⟨q, B, X', hpost, hsteps⟩
  · exact Or.inl ⟨v, vm₁, B, X₁.warmed, X', hpost, fun target h => hstep₁ _ fun acts => by rw [doInvoke_state]; exact hsteps.trans h⟩
  · exact Or.inr ⟨q, vm₁, B, X₁.warmed, X', hpost, hstep₁ _ fun acts => by rw [doInvoke_state]; exact hsteps⟩
theorem vx_callVW (X : Stand p l e R s m args below meth c T locs cells slots) (hexec : p.tables.exec = Jvm.exec) {own C : String} {index : Nat} {y : MethodName} {bytes : ByteArray} {maxL : Nat} {ret : Option FieldType} {hh : List (Nat × Nat × Nat × Nat)}
    (hown : s.vm.findClass own = some m.cls) (hlink : (Cond.methodLink own index y).before args s = true) (hinst : (Cond.instanceMethod y).before args s = true) (hsel : (Cond.selects C y y).before args s = true)
    (hcode : (Cond.codeWith y bytes maxL ret hh).before args s = true) (hy : y.cls ≠ "java/lang/invoke/MethodHandle" ∧ y.cls ≠ "java/lang/invoke/VarHandle")
    {W9 : Nat} {Pre : Pt → Array Value → Prop} {Post : Pt → Array Value → Option Value → Pt → Prop} (hK : Back l R p e below s args y 3 W9 Pre Post)
    {b : Addr} {cellB : Cell} (hcell : T.heap[b]? = some cellB) (hobj : cellB.vm.isStatics = false) (hcls : s.vm.findClass C = some cellB.cls)
    {g : JFrame} (hg : g.method = m) (hsize : g.locals.size = c.maxLocals) {argsL rest : List Value} (hlen : ∀ sig, parseMethodDescriptor y.desc = some sig → argsL.length = sig.parameters.length)
    (hstack : g.stack = argsL.reverse ++ .ref b :: rest) (hW : 2 * g.monitorRoom + (rest.map fun v => v.category).sum ≤ W9) (hdg : decode c.code g.pc = .ok (.invokevirtual index, 3))
    (hpre : ∀ vm₁, s.WarmedH vm₁ → Pre ⟨T.setVm vm₁, locs, cells, slots⟩ (Value.ref b :: argsL).toArray) :
    ∃ (v : Option Value) (vm₁ : Vm) (B : Pt), s.WarmedH vm₁ ∧ Stand p l e R s m args below meth c B.U B.locs B.cells B.slots ∧ Post ⟨T.setVm vm₁, locs, cells, slots⟩ (Value.ref b :: argsL).toArray v B ∧
      ∀ target, Steps p.tables e below (B.U.setTop { g with pc := g.pc + 3, stack := v.toList ++ rest }) target → Steps p.tables e below (T.setTop g) target := by
  obtain ⟨mk, methM, hnamed, hmethM, hstM, habM⟩ := Cond.instanceMethod_spec hinst
  obtain ⟨m8, methM', cM, hn8, hmethM', -, -, -, -, -, -, hsigM⟩ := Cond.codeWith_spec hcode
  cases Option.some.inj (hn8.symm.trans hnamed)
  cases hmethM.symm.trans hmethM'
  obtain ⟨c2, r2, m2, q1, q2, q3, q4, kP, hkP, hkPi⟩ := Cond.selects_spec hsel
  cases hcls.symm.trans q1
  cases (State.methodFound?_of_named hnamed hy).symm.trans q2
  cases hnamed.symm.trans q3
  have hselP : selectMethod e.platform s.vm cellB.cls mk = .method mk := by rw [Launch.admits_selectMethod X.admits]; exact q4
  obtain ⟨vm₁, X₁, hstep₁⟩ := X.invokevirtual hexec hown hlink hnamed hmethM hstM hkP hkPi hy (a := b) (cell := cellB) hcell
    (fun z h => by rw [h] at hobj; cases hobj) hselP hmethM habM hkP hkPi (g := g) hg (argsL := argsL) (rest := rest) (hlen _ hsigM) hstack hdg
  obtain ⟨v, B, X', hpost, hsteps⟩ := hK m meth c ⟨T.setVm vm₁, locs, cells, slots⟩ { g with stack := rest } (.invokevirtual index) mk (Value.ref b :: argsL).toArray X₁ hg hsize hdg hW (X₁.named hnamed) (hpre vm₁ X₁.warmed)
  exact ⟨v, vm₁, B, X₁.warmed, X', hpost, fun target h => hstep₁ _ fun acts => by rw [doInvoke_state]; exact hsteps.trans h⟩
abbrev vx_CVW (R : Room) (s : State) (args : Array Value) (own C : String) (index : Nat) (y : MethodName) (bytes : ByteArray) (maxL : Nat) (ret : Option FieldType) (hh : List (Nat × Nat × Nat × Nat)) (ws : List Cond) (rm : Room) (mc ms n : Nat) : Prop :=
  (rm.cells = mc ∧ rm.slots = ms ∧ rm.frames + 1 ≤ R.frames ∧ 8 + (maxL + 11) + rm.locals ≤ R.locals ∧ (∀ w ∈ ws, ∀ (a' : Array Value) (U : State), s.WarmedH U.vm → w.before a' U = true) ∧ Cond.codeWith y bytes maxL ret hh ∈ ws) ∧
  (Cond.codeWith y bytes maxL ret hh).before args s = true ∧ (Cond.initialized y.cls).before args s = true ∧ (y.cls ≠ "java/lang/invoke/MethodHandle" ∧ y.cls ≠ "java/lang/invoke/VarHandle") ∧
  (∀ sig, parseMethodDescriptor y.desc = some sig → n = sig.parameters.length) ∧ (Cond.methodLink own index y).before args s = true ∧ (Cond.instanceMethod y).before args s = true ∧ (Cond.selects C y y).before args s = true
theorem vx_cwVW {own C : String} {index maxL mc ms : Nat} {y : MethodName} {bytes : ByteArray} {ret : Option FieldType} {hh : List (Nat × Nat × Nat × Nat)} {Ts ws ws' : List Cond} {rm : Room} (n : Nat) (ht : ∀ w ∈ Ts, w.before args s = true) (hT : GoodIn Ts (wsV own index C y ws)) (hw : ws = Cond.codeWith y bytes maxL ret hh :: ws') (hrc : rm.cells = mc) (hrs : rm.slots = ms)
    (hd : y.cls = C ∧ y.cls ≠ "java/lang/invoke/MethodHandle" ∧ y.cls ≠ "java/lang/invoke/VarHandle" ∧ (parseMethodDescriptor y.desc).map (fun d => d.parameters.length) = some n) (hR : rm.frames + 1 ≤ R.frames ∧ 8 + (maxL + 11) + rm.locals ≤ R.locals) :
    vx_CVW R s args own C index y bytes maxL ret hh ws rm mc ms n := by
  obtain ⟨hC, hd⟩ := hd
  subst hC
  have ok : ∀ w ∈ wsV own index y.cls y ws, w.before args s = true := fun w h => ht w (hT w h).1
  have hG : GoodIn Ts ws := fun w h => hT w (by unfold wsV; exact List.mem_append_right _ h)
  have hc : Cond.codeWith y bytes maxL ret hh ∈ ws := by rw [hw]; exact List.mem_cons_self
  refine ⟨⟨hrc, hrs, hR.1, hR.2, pay_in ht hG, hc⟩, ht _ (hG _ hc).1, ok _ (by simp [wsV]), ⟨hd.1, hd.2.1⟩, fun sig h => ?_, ok _ (by simp [wsV]), ok _ (by simp [wsV]), ok _ (by simp [wsV])⟩
  have h2 := hd.2.2
  rw [h] at h2
  exact (Option.some.inj h2).symm
theorem vx_runVW {y : MethodName} {bytes cc : ByteArray} {maxL nL mc ms n index : Nat} {ret : Option FieldType} {hh : List (Nat × Nat × Nat × Nat)} {ws : List Cond} {rm : Room} {Pc : Array Value → State → Prop} {Qc : Array Value → State → Outcome → State → Prop} {free : Addr → Prop} {Ts : List Cond} {own C : String} {b : Addr} {As rest : List Value} {g : JFrame}
    (S : CallFix p m c cc nL s args Ts own) (hM : Met l y ws rm Pc Qc mc ms free) (cw : vx_CVW R s args own C index y bytes maxL ret hh ws rm mc ms n) (hp : PreV s H C b Pc As)
    (hg : g.method = m) (hn : As.length = n) (hsize : g.locals.size = nL) (hstack : g.stack = As.reverse ++ .ref b :: rest) (hW : 2 * g.monitorRoom + (rest.map fun v => v.category).sum ≤ 8) (hdg : decode cc g.pc = .ok (.invokevirtual index, 3)) (hf : cells + mc ≤ R.cells ∧ slots + ms ≤ R.slots) :
    va_Run p l e R s m args below meth c H locs cells slots mc ms g rest (Qc (Value.ref b :: As).toArray) free := by
  obtain ⟨⟨hrc, hrs, hfr, hlo, hws, hcw⟩, hcode, hini, hy, hlen, hl, hin, hse⟩ := cw
  have hK : Back l R p e below s args y 3 8 (PreOf R mc ms Pc) (PostOf Qc mc ms free) := va_backW (hh := hh) (bytes := bytes) (maxL := maxL) (ret := ret) hM hp.1 hrc hrs hfr hlo hws hcw (fun a' U hW => word_at hW (Or.inl (by first | rfl | simp [Cond.onTables, Cond.keeps, Cond.steady])) hini)
  obtain ⟨hx, hb, hml, ho, -⟩ := S
  obtain ⟨-, ⟨cellB, hcB, hoB, hclB⟩, hPc⟩ := hp
  intro T hT X
  obtain ⟨v, vm₁, ⟨U', l2, c2, s2⟩, hW₁, X', ⟨g', mk, t, L, e1, e2, hq, h1, hL, h2, h3⟩, st⟩ := vx_callVW X hx (C := C) (hh := hh) (bytes := bytes) (maxL := maxL) (ret := ret) ho hl hin hse hcode hy hK (by rw [hT]; exact hcB) hoB hclB hg (hsize.trans hml.symm) (argsL := As) (rest := rest) (fun sig h => hn.trans (hlen sig h)) hstack hW (by rw [hb]; exact hdg)
    (fun vm₁ hW₁ => ⟨hf.1, hf.2, hPc (T.setVm vm₁) hT hW₁⟩)
  dsimp only [Pt.U, Pt.locs, Pt.cells, Pt.slots] at X' e1 e2 h1 h2 h3 st
  subst h1; subst h2; subst h3
  exact ⟨v, (T.setVm vm₁).calling g' mk (Value.ref b :: As).toArray, t, U', L, hT, X', hL, e1, e2, hq, st⟩
section
variable {y : MethodName} {bytes cc : ByteArray} {maxL nL mc ms n index : Nat} {ret : Option FieldType} {ws : List Cond} {rm : Room} {Pc : Array Value → State → Prop} {Qc : Array Value → State → Outcome → State → Prop} {XC : String → State → State → Prop} {free : Addr → Prop} {Ts : List Cond} {own C : String} {b : Addr} {As rest : List Value} {g : JFrame}
theorem vx_runVX {hh : List (Nat × Nat × Nat × Nat)} (S : CallFix p m c cc nL s args Ts own) (hM : vx_Met l y ws rm Pc Qc XC mc ms free) (cw : vx_CVW R s args own C index y bytes maxL ret hh ws rm mc ms n) (hp : PreV s H C b Pc As)
    (hg : g.method = m) (hn : As.length = n) (hsize : g.locals.size = nL) (hstack : g.stack = As.reverse ++ .ref b :: rest) (hW : 2 * g.monitorRoom + (rest.map fun v => v.category).sum ≤ 8) (hdg : decode cc g.pc = .ok (.invokevirtual index, 3)) (hf : cells + mc ≤ R.cells ∧ slots + ms ≤ R.slots) :
    vx_Run p l e R s m args below meth c H locs cells slots mc ms g rest (Qc (Value.ref b :: As).toArray) XC free := by
  obtain ⟨⟨hrc, hrs, hfr, hlo, hws, hcw⟩, hcode, hini, hy, hlen, hl, hin, hse⟩ := cw
  have hK : vx_Back l R p e below s args y 3 8 (PreOf R mc ms Pc) (PostOf Qc mc ms free) (vx_Post XC mc ms free) := vx_backW (hh := hh) (bytes := bytes) (maxL := maxL) (ret := ret) hM hp.1 hrc hrs hfr hlo hws hcw (fun a' U hW => word_at hW (Or.inl (by first | rfl | simp [Cond.onTables, Cond.keeps, Cond.steady])) hini)
  obtain ⟨hx, hb, hml, ho, -⟩ := S
  obtain ⟨-, ⟨cellB, hcB, hoB, hclB⟩, hPc⟩ := hp
  intro T hT X
  rcases vx_callVX X hx (C := C) (hh := hh) (bytes := bytes) (maxL := maxL) (ret := ret) ho hl hin hse hcode hy hK (by rw [hT]; exact hcB) hoB hclB hg (hsize.trans hml.symm) (argsL := As) (rest := rest) (fun sig h => hn.trans (hlen sig h)) hstack hW (by rw [hb]; exact hdg)
    (fun vm₁ hW₁ => ⟨hf.1, hf.2, hPc (T.setVm vm₁) hT hW₁⟩) with ⟨v, vm₁, ⟨U', l2, c2, s2⟩, hW₁, X', ⟨g', mk, t, L, e1, e2, hq, h1, hL, h2, h3⟩, st⟩ | ⟨q, vm₁, ⟨U', l2, c2, s2⟩, hW₁, X', ⟨g', mk, t, L, E, ce, e1, e2, hq, hce, hcv, hcl, h1, hL, h2, h3⟩, st⟩
  · dsimp only [Pt.U, Pt.locs, Pt.cells, Pt.slots] at X' e1 e2 h1 h2 h3 st
    subst h1; subst h2; subst h3
    exact Or.inl ⟨v, (T.setVm vm₁).calling g' mk (Value.ref b :: As).toArray, t, U', L, hT, X', hL, e1, e2, hq, st⟩
  · dsimp only [Pt.U, Pt.locs, Pt.cells, Pt.slots] at X' e1 e2 h1 h2 h3 st hcl
    subst h1; subst h2; subst h3
    exact Or.inr ⟨q, (T.setVm vm₁).calling g' mk (Value.ref b :: As).toArray, t, U', L, E, ce, hT, X', hL, e1, e2, hq, hce, hcv, vx_cls hW₁ hcl, st⟩
theorem vx_runSX {hh : List (Nat × Nat × Nat × Nat)} (S : CallFix p m c cc nL s args Ts own) (hM : vx_Met l y ws rm Pc Qc XC mc ms free) (cw : vx_CSW R s args own index y bytes maxL ret hh ws rm mc ms n) (hp : PreS s H Pc As)
    (hg : g.method = m) (hn : As.length = n) (hsize : g.locals.size = nL) (hstack : g.stack = As.reverse ++ rest) (hW : 2 * g.monitorRoom + (rest.map fun v => v.category).sum ≤ 8) (hdg : decode cc g.pc = .ok (.invokestatic index, 3)) (hf : cells + mc ≤ R.cells ∧ slots + ms ≤ R.slots) :
    vx_Run p l e R s m args below meth c H locs cells slots mc ms g rest (Qc As.toArray) XC free := by
  obtain ⟨⟨hrc, hrs, hfr, hlo, hws, hcw⟩, hcode, hini, hy, hlen, hl, hstt⟩ := cw
  have hK : vx_Back l R p e below s args y 3 8 (PreOf R mc ms Pc) (PostOf Qc mc ms free) (vx_Post XC mc ms free) := vx_backW (hh := hh) (bytes := bytes) (maxL := maxL) (ret := ret) hM hp.1 hrc hrs hfr hlo hws hcw (fun a' U hW => word_at hW (Or.inl (by first | rfl | simp [Cond.onTables, Cond.keeps, Cond.steady])) hini)
  obtain ⟨hx, hb, hml, ho, -⟩ := S
  intro T hT X
  rcases vx_callSX X hx (hh := hh) (bytes := bytes) (maxL := maxL) (ret := ret) ho hl hstt hini hcode hy hK hg (hsize.trans hml.symm) (argsL := As) (rest := rest) (fun sig h => hn.trans (hlen sig h)) hstack hW (by rw [hb]; exact hdg)
    (fun vm₁ hW₁ => ⟨hf.1, hf.2, hp.2 (T.setVm vm₁) hT hW₁⟩) with ⟨v, vm₁, ⟨U', l2, c2, s2⟩, hW₁, X', ⟨g', mk, t, L, e1, e2, hq, h1, hL, h2, h3⟩, st⟩ | ⟨q, vm₁, ⟨U', l2, c2, s2⟩, hW₁, X', ⟨g', mk, t, L, E, ce, e1, e2, hq, hce, hcv, hcl, h1, hL, h2, h3⟩, st⟩
  · dsimp only [Pt.U, Pt.locs, Pt.cells, Pt.slots] at X' e1 e2 h1 h2 h3 st
    subst h1; subst h2; subst h3
    exact Or.inl ⟨v, (T.setVm vm₁).calling g' mk As.toArray, t, U', L, hT, X', hL, e1, e2, hq, st⟩
  · dsimp only [Pt.U, Pt.locs, Pt.cells, Pt.slots] at X' e1 e2 h1 h2 h3 st hcl
    subst h1; subst h2; subst h3
    exact Or.inr ⟨q, (T.setVm vm₁).calling g' mk As.toArray, t, U', L, E, ce, hT, X', hL, e1, e2, hq, hce, hcv, vx_cls hW₁ hcl, st⟩
end
end VXH
theorem vx_ofWH {l : Launch} {y : MethodName} {ws ws' : List Cond} {rm : Room} {Pc : Array Value → State → Prop} {Qc : Array Value → State → Outcome → State → Prop} {XC : String → State → State → Prop} {mc ms : Nat} {free : Addr → Prop} {cc : ByteArray} {maxL : Nat} {ret : Option FieldType} {hh : List (Nat × Nat × Nat × Nat)}
    (hy : plainName y.cls = true) (hw : ws = Cond.codeWith y cc maxL ret hh :: ws')
    (body : ∀ p e s m args below meth c s₁, BodyLoose p l y (headSpec ws rm) cc maxL ret e s m args below meth c s₁ → c.maxLocals = maxL → Pc args s →
      W p l e (headSpec ws rm).room s m args below meth c s.heap [] 0 0 (vx_MQ below Qc XC args s mc ms free) (entryFrame m args maxL)) : vx_Met l y ws rm Pc Qc XC mc ms free := by
  refine MetFree.of_bodyS (code := cc) (maxLocals := maxL) (ret := ret) hy ?_ ?_
  · intro args s m h hn
    obtain ⟨m9, meth, c, hn9, h1, h2, h3, h4, -, h5, h6, -⟩ := Cond.codeWith_spec (atoms_spec (ws := ws) h _ (by rw [hw]; exact List.mem_cons_self))
    cases hn.symm.trans hn9
    exact ⟨meth, c, h1, h2, h3, h4, h5, h6⟩
  · intro p e s m args below meth c s₁ B hml hP _
    have hh0 : s₁.heap = s.heap := by rw [B.state]; rfl
    obtain ⟨t, a1, o, b1, b2, b3⟩ := body p e s m args below meth c s₁ B hml hP s₁ hh0 (Stand.of_body B)
    exact ⟨t, o, a1, b1, b2, b3⟩
/-! ===== END ===== -/
end
section
def RX0 : String := "DominoChains$History"
def TX0 : u_T := fun k => match k with
  | 0 => ("DominoChains$History", "kept", "[LDominoChains$State;", true)
  | 1 => ("DominoChains$History", "count", "I", false)
  | _ => ("DominoChains$History", "next", "I", false)
def tyX0 : Nat → FieldType := fun k => match k with
  | 0 => .array (.object "DominoChains$State")
  | 1 => .int
  | _ => .int
abbrev wsX00 : List Cond := u_ws RX0 TX0 3
theorem nmX0 : ∀ a, a < 3 → ∀ b, b < 3 → a ≠ b → (TX0 a).2.1 ≠ (TX0 b).2.1 := by decide +kernel
theorem tyX0_ok : ∀ k, k < 3 → parseFieldDescriptor (TX0 k).2.2.1 = some (tyX0 k) := by decide +kernel
abbrev cX0_init : ByteArray := prog_2_method_1_code
def yX0_init : MethodName := ⟨RX0, "<init>", "()V"⟩
abbrev cX0_clear : ByteArray := prog_2_method_2_code
def yX0_clear : MethodName := ⟨RX0, "clear", "()V"⟩
abbrev cX0_remember : ByteArray := prog_2_method_3_code
def yX0_remember : MethodName := ⟨RX0, "remember", "(LDominoChains$State;)V"⟩
abbrev cX0_takeBack : ByteArray := prog_2_method_4_code
def yX0_takeBack : MethodName := ⟨RX0, "takeBack", "(LDominoChains$State;)V"⟩
abbrev cX0_slotAt : ByteArray := prog_2_method_5_code
def yX0_slotAt : MethodName := ⟨RX0, "slotAt", "(I)LDominoChains$State;"⟩
def RX1 : String := "DominoChains$Layout"
def TX1 : u_T := fun k => match k with
  | 0 => ("DominoChains$Layout", "rounds", "I", false)
  | 1 => ("DominoChains$Layout", "chains", "[I", true)
  | 2 => ("DominoChains$Layout", "lengths", "[I", true)
  | 3 => ("DominoChains$Layout", "lefts", "[I", true)
  | 4 => ("DominoChains$Layout", "rights", "[I", true)
  | _ => ("DominoChains$Layout", "points", "[I", true)
def tyX1 : Nat → FieldType := fun k => match k with
  | 0 => .int
  | 1 => .array .int
  | 2 => .array .int
  | 3 => .array .int
  | 4 => .array .int
  | _ => .array .int
abbrev wsX10 : List Cond := u_ws RX1 TX1 6
theorem nmX1 : ∀ a, a < 6 → ∀ b, b < 6 → a ≠ b → (TX1 a).2.1 ≠ (TX1 b).2.1 := by decide +kernel
theorem tyX1_ok : ∀ k, k < 6 → parseFieldDescriptor (TX1 k).2.2.1 = some (tyX1 k) := by decide +kernel
abbrev cX1_init : ByteArray := prog_3_method_1_code
def yX1_init : MethodName := ⟨RX1, "<init>", "()V"⟩
abbrev cX1_copyFrom : ByteArray := prog_3_method_2_code
def yX1_copyFrom : MethodName := ⟨RX1, "copyFrom", "(LDominoChains$Layout;)V"⟩
abbrev cX1_clear : ByteArray := prog_3_method_3_code
def yX1_clear : MethodName := ⟨RX1, "clear", "()V"⟩
abbrev cX1_openRound : ByteArray := prog_3_method_4_code
def yX1_openRound : MethodName := ⟨RX1, "openRound", "()V"⟩
abbrev cX1_openChain : ByteArray := prog_3_method_5_code
def yX1_openChain : MethodName := ⟨RX1, "openChain", "()V"⟩
abbrev cX1_addTile : ByteArray := prog_3_method_6_code
def yX1_addTile : MethodName := ⟨RX1, "addTile", "(II)V"⟩
abbrev cX1_lengthOf : ByteArray := prog_3_method_7_code
def yX1_lengthOf : MethodName := ⟨RX1, "lengthOf", "(II)I"⟩
abbrev cX1_slotOf : ByteArray := prog_3_method_8_code
def yX1_slotOf : MethodName := ⟨RX1, "slotOf", "(III)I"⟩
def RX2 : String := "DominoChains$Match"
def TX2 : u_T := fun k => match k with
  | 0 => ("DominoChains$Match", "layout", "LDominoChains$Layout;", true)
  | _ => ("DominoChains$Match", "state", "LDominoChains$State;", true)
def tyX2 : Nat → FieldType := fun k => match k with
  | 0 => .object "DominoChains$Layout"
  | _ => .object "DominoChains$State"
abbrev wsX20 : List Cond := u_ws RX2 TX2 2
theorem nmX2 : ∀ a, a < 2 → ∀ b, b < 2 → a ≠ b → (TX2 a).2.1 ≠ (TX2 b).2.1 := by decide +kernel
theorem tyX2_ok : ∀ k, k < 2 → parseFieldDescriptor (TX2 k).2.2.1 = some (tyX2 k) := by decide +kernel
abbrev cX2_init : ByteArray := prog_4_method_1_code
def yX2_init : MethodName := ⟨RX2, "<init>", "()V"⟩
abbrev cX2_copyFrom : ByteArray := prog_4_method_2_code
def yX2_copyFrom : MethodName := ⟨RX2, "copyFrom", "(LDominoChains$Match;)V"⟩
abbrev cX2_setUpFirst : ByteArray := prog_4_method_3_code
def yX2_setUpFirst : MethodName := ⟨RX2, "setUpFirst", "()V"⟩
abbrev cX2_beginMatch : ByteArray := prog_4_method_4_code
def yX2_beginMatch : MethodName := ⟨RX2, "beginMatch", "()V"⟩
abbrev cX2_beginRound : ByteArray := prog_4_method_5_code
def yX2_beginRound : MethodName := ⟨RX2, "beginRound", "(II)V"⟩
abbrev cX2_beginNext : ByteArray := prog_4_method_6_code
def yX2_beginNext : MethodName := ⟨RX2, "beginNext", "()V"⟩
abbrev cX2_isLastRound : ByteArray := prog_4_method_7_code
def yX2_isLastRound : MethodName := ⟨RX2, "isLastRound", "()Z"⟩
abbrev cX2_chainsNow : ByteArray := prog_4_method_8_code
def yX2_chainsNow : MethodName := ⟨RX2, "chainsNow", "()I"⟩
abbrev cX2_lengthNow : ByteArray := prog_4_method_9_code
def yX2_lengthNow : MethodName := ⟨RX2, "lengthNow", "(I)I"⟩
abbrev cX2_burnsNow : ByteArray := prog_4_method_10_code
def yX2_burnsNow : MethodName := ⟨RX2, "burnsNow", "()I"⟩
abbrev cX2_slotNow : ByteArray := prog_4_method_11_code
def yX2_slotNow : MethodName := ⟨RX2, "slotNow", "(II)I"⟩
abbrev cX2_leftNow : ByteArray := prog_4_method_12_code
def yX2_leftNow : MethodName := ⟨RX2, "leftNow", "(II)I"⟩
abbrev cX2_rightNow : ByteArray := prog_4_method_13_code
def yX2_rightNow : MethodName := ⟨RX2, "rightNow", "(II)I"⟩
abbrev cX2_pointsNow : ByteArray := prog_4_method_14_code
def yX2_pointsNow : MethodName := ⟨RX2, "pointsNow", "(II)I"⟩
abbrev cX2_pointsOfChain : ByteArray := prog_4_method_15_code
def yX2_pointsOfChain : MethodName := ⟨RX2, "pointsOfChain", "(I)I"⟩
abbrev cX2_leastOfChain : ByteArray := prog_4_method_16_code
def yX2_leastOfChain : MethodName := ⟨RX2, "leastOfChain", "(I)I"⟩
abbrev cX2_scoreOf : ByteArray := prog_4_method_17_code
def yX2_scoreOf : MethodName := ⟨RX2, "scoreOf", "(II)I"⟩
abbrev cX2_scoreNow : ByteArray := prog_4_method_18_code
def yX2_scoreNow : MethodName := ⟨RX2, "scoreNow", "(I)I"⟩
abbrev cX2_totalOf : ByteArray := prog_4_method_19_code
def yX2_totalOf : MethodName := ⟨RX2, "totalOf", "(I)I"⟩
abbrev cX2_winnerOf : ByteArray := prog_4_method_20_code
def yX2_winnerOf : MethodName := ⟨RX2, "winnerOf", "(I)I"⟩
abbrev cX2_winsOf : ByteArray := prog_4_method_21_code
def yX2_winsOf : MethodName := ⟨RX2, "winsOf", "(I)I"⟩
abbrev cX2_greatestOf : ByteArray := prog_4_method_22_code
def yX2_greatestOf : MethodName := ⟨RX2, "greatestOf", "(I)I"⟩
abbrev cX2_movesNow : ByteArray := prog_4_method_23_code
def yX2_movesNow : MethodName := ⟨RX2, "movesNow", "()I"⟩
abbrev cX2_codeOfMove : ByteArray := prog_4_method_24_code
def yX2_codeOfMove : MethodName := ⟨RX2, "codeOfMove", "(I)I"⟩
abbrev cX2_pointsOfCode : ByteArray := prog_4_method_25_code
def yX2_pointsOfCode : MethodName := ⟨RX2, "pointsOfCode", "(I)I"⟩
abbrev cX2_greediestMove : ByteArray := prog_4_method_26_code
def yX2_greediestMove : MethodName := ⟨RX2, "greediestMove", "()I"⟩
abbrev cX2_play : ByteArray := prog_4_method_27_code
def yX2_play : MethodName := ⟨RX2, "play", "(I)V"⟩
abbrev cX2_takeEnd : ByteArray := prog_4_method_28_code
def yX2_takeEnd : MethodName := ⟨RX2, "takeEnd", "(I)V"⟩
def RX3 : String := "DominoChains$Parser"
def TX3 : u_T := fun k => match k with
  | 0 => ("DominoChains$Parser", "draft", "LDominoChains$Match;", true)
  | 1 => ("DominoChains$Parser", "scanner", "LDominoChains$Scanner;", true)
  | 2 => ("DominoChains$Parser", "seen", "[I", true)
  | 3 => ("DominoChains$Parser", "openRight", "I", false)
  | 4 => ("DominoChains$Parser", "faultKind", "I", false)
  | _ => ("DominoChains$Parser", "faultPosition", "I", false)
def tyX3 : Nat → FieldType := fun k => match k with
  | 0 => .object "DominoChains$Match"
  | 1 => .object "DominoChains$Scanner"
  | 2 => .array .int
  | 3 => .int
  | 4 => .int
  | _ => .int
abbrev wsX30 : List Cond := u_ws RX3 TX3 6
theorem nmX3 : ∀ a, a < 6 → ∀ b, b < 6 → a ≠ b → (TX3 a).2.1 ≠ (TX3 b).2.1 := by decide +kernel
theorem tyX3_ok : ∀ k, k < 6 → parseFieldDescriptor (TX3 k).2.2.1 = some (tyX3 k) := by decide +kernel
abbrev cX3_init : ByteArray := prog_5_method_1_code
def yX3_init : MethodName := ⟨RX3, "<init>", "()V"⟩
abbrev cX3_readRounds : ByteArray := prog_5_method_2_code
def yX3_readRounds : MethodName := ⟨RX3, "readRounds", "([II)Z"⟩
abbrev cX3_readMoves : ByteArray := prog_5_method_3_code
def yX3_readMoves : MethodName := ⟨RX3, "readMoves", "()Z"⟩
abbrev cX3_readRound : ByteArray := prog_5_method_4_code
def yX3_readRound : MethodName := ⟨RX3, "readRound", "()Z"⟩
abbrev cX3_readChain : ByteArray := prog_5_method_5_code
def yX3_readChain : MethodName := ⟨RX3, "readChain", "()Z"⟩
abbrev cX3_tileFault : ByteArray := prog_5_method_6_code
def yX3_tileFault : MethodName := ⟨RX3, "tileFault", "(I)I"⟩
abbrev cX3_takeTile : ByteArray := prog_5_method_7_code
def yX3_takeTile : MethodName := ⟨RX3, "takeTile", "(II)V"⟩
abbrev cX3_pairOf : ByteArray := prog_5_method_8_code
def yX3_pairOf : MethodName := ⟨RX3, "pairOf", "(II)I"⟩
abbrev cX3_readMove : ByteArray := prog_5_method_9_code
def yX3_readMove : MethodName := ⟨RX3, "readMove", "()Z"⟩
abbrev cX3_readBurn : ByteArray := prog_5_method_10_code
def yX3_readBurn : MethodName := ⟨RX3, "readBurn", "(Z)Z"⟩
abbrev cX3_readPass : ByteArray := prog_5_method_11_code
def yX3_readPass : MethodName := ⟨RX3, "readPass", "()Z"⟩
abbrev cX3_readNext : ByteArray := prog_5_method_12_code
def yX3_readNext : MethodName := ⟨RX3, "readNext", "()Z"⟩
abbrev cX3_readSemicolon : ByteArray := prog_5_method_13_code
def yX3_readSemicolon : MethodName := ⟨RX3, "readSemicolon", "()Z"⟩
abbrev cX3_fail : ByteArray := prog_5_method_14_code
def yX3_fail : MethodName := ⟨RX3, "fail", "(I)Z"⟩
def RX4 : String := "DominoChains$Scanner"
def TX4 : u_T := fun k => match k with
  | 0 => ("DominoChains$Scanner", "bytes", "[I", true)
  | 1 => ("DominoChains$Scanner", "end", "I", false)
  | 2 => ("DominoChains$Scanner", "kind", "I", false)
  | 3 => ("DominoChains$Scanner", "start", "I", false)
  | _ => ("DominoChains$Scanner", "next", "I", false)
def tyX4 : Nat → FieldType := fun k => match k with
  | 0 => .array .int
  | 1 => .int
  | 2 => .int
  | 3 => .int
  | _ => .int
abbrev wsX40 : List Cond := u_ws RX4 TX4 5
theorem nmX4 : ∀ a, a < 5 → ∀ b, b < 5 → a ≠ b → (TX4 a).2.1 ≠ (TX4 b).2.1 := by decide +kernel
theorem tyX4_ok : ∀ k, k < 5 → parseFieldDescriptor (TX4 k).2.2.1 = some (tyX4 k) := by decide +kernel
abbrev cX4_init : ByteArray := prog_6_method_1_code
def yX4_init : MethodName := ⟨RX4, "<init>", "()V"⟩
abbrev cX4_open : ByteArray := prog_6_method_2_code
def yX4_open : MethodName := ⟨RX4, "open", "([II)V"⟩
abbrev cX4_step : ByteArray := prog_6_method_3_code
def yX4_step : MethodName := ⟨RX4, "step", "()V"⟩
abbrev cX4_isWord : ByteArray := prog_6_method_4_code
def yX4_isWord : MethodName := ⟨RX4, "isWord", "(Ljava/lang/String;)Z"⟩
abbrev cX4_isRun : ByteArray := prog_6_method_5_code
def yX4_isRun : MethodName := ⟨RX4, "isRun", "(I)Z"⟩
abbrev cX4_digit : ByteArray := prog_6_method_6_code
def yX4_digit : MethodName := ⟨RX4, "digit", "(I)I"⟩
abbrev cX4_isBlank : ByteArray := prog_6_method_7_code
def yX4_isBlank : MethodName := ⟨RX4, "isBlank", "(I)Z"⟩
abbrev cX4_kindOf : ByteArray := prog_6_method_8_code
def yX4_kindOf : MethodName := ⟨RX4, "kindOf", "(I)I"⟩
def RX5 : String := "DominoChains$Solver"
def TX5 : u_T := fun k => match k with
  | 0 => ("DominoChains$Solver", "lowOfSpan", "[I", true)
  | 1 => ("DominoChains$Solver", "highOfSpan", "[I", true)
  | 2 => ("DominoChains$Solver", "points", "[I", true)
  | 3 => ("DominoChains$Solver", "spanCounts", "[I", true)
  | 4 => ("DominoChains$Solver", "weights", "[I", true)
  | 5 => ("DominoChains$Solver", "spans", "[I", true)
  | 6 => ("DominoChains$Solver", "optimal", "[I", true)
  | 7 => ("DominoChains$Solver", "ahead", "[I", true)
  | 8 => ("DominoChains$Solver", "behind", "[I", true)
  | 9 => ("DominoChains$Solver", "positions", "I", false)
  | 10 => ("DominoChains$Solver", "shapedRound", "I", false)
  | 11 => ("DominoChains$Solver", "hasOptimal", "Z", false)
  | _ => ("DominoChains$Solver", "hasGreedy", "Z", false)
def tyX5 : Nat → FieldType := fun k => match k with
  | 0 => .array .int
  | 1 => .array .int
  | 2 => .array .int
  | 3 => .array .int
  | 4 => .array .int
  | 5 => .array .int
  | 6 => .array .int
  | 7 => .array .int
  | 8 => .array .int
  | 9 => .int
  | 10 => .int
  | 11 => .boolean
  | _ => .boolean
abbrev wsX50 : List Cond := u_ws RX5 TX5 13
theorem nmX5 : ∀ a, a < 13 → ∀ b, b < 13 → a ≠ b → (TX5 a).2.1 ≠ (TX5 b).2.1 := by decide +kernel
theorem tyX5_ok : ∀ k, k < 13 → parseFieldDescriptor (TX5 k).2.2.1 = some (tyX5 k) := by decide +kernel
abbrev cX5_init : ByteArray := prog_7_method_1_code
def yX5_init : MethodName := ⟨RX5, "<init>", "()V"⟩
abbrev cX5_forget : ByteArray := prog_7_method_2_code
def yX5_forget : MethodName := ⟨RX5, "forget", "()V"⟩
abbrev cX5_solveOptimal : ByteArray := prog_7_method_3_code
def yX5_solveOptimal : MethodName := ⟨RX5, "solveOptimal", "(LDominoChains$Match;)V"⟩
abbrev cX5_solveGreedy : ByteArray := prog_7_method_4_code
def yX5_solveGreedy : MethodName := ⟨RX5, "solveGreedy", "(LDominoChains$Match;)V"⟩
abbrev cX5_optimalOf : ByteArray := prog_7_method_5_code
def yX5_optimalOf : MethodName := ⟨RX5, "optimalOf", "(LDominoChains$Match;)I"⟩
abbrev cX5_optimalOfChain : ByteArray := prog_7_method_6_code
def yX5_optimalOfChain : MethodName := ⟨RX5, "optimalOfChain", "(LDominoChains$Match;I)I"⟩
abbrev cX5_valueOf : ByteArray := prog_7_method_7_code
def yX5_valueOf : MethodName := ⟨RX5, "valueOf", "(LDominoChains$Match;I)I"⟩
abbrev cX5_againstGreedy : ByteArray := prog_7_method_8_code
def yX5_againstGreedy : MethodName := ⟨RX5, "againstGreedy", "(LDominoChains$Match;)I"⟩
abbrev cX5_behindGreedy : ByteArray := prog_7_method_9_code
def yX5_behindGreedy : MethodName := ⟨RX5, "behindGreedy", "(LDominoChains$Match;)I"⟩
abbrev cX5_shape : ByteArray := prog_7_method_10_code
def yX5_shape : MethodName := ⟨RX5, "shape", "(LDominoChains$Match;)V"⟩
abbrev cX5_spanOf : ByteArray := prog_7_method_11_code
def yX5_spanOf : MethodName := ⟨RX5, "spanOf", "(II)I"⟩
abbrev cX5_placeAt : ByteArray := prog_7_method_12_code
def yX5_placeAt : MethodName := ⟨RX5, "placeAt", "(LDominoChains$Match;)I"⟩
abbrev cX5_startWalk : ByteArray := prog_7_method_13_code
def yX5_startWalk : MethodName := ⟨RX5, "startWalk", "()V"⟩
abbrev cX5_stepWalk : ByteArray := prog_7_method_14_code
def yX5_stepWalk : MethodName := ⟨RX5, "stepWalk", "()V"⟩
abbrev cX5_isBurnable : ByteArray := prog_7_method_15_code
def yX5_isBurnable : MethodName := ⟨RX5, "isBurnable", "(I)Z"⟩
abbrev cX5_leftPoints : ByteArray := prog_7_method_16_code
def yX5_leftPoints : MethodName := ⟨RX5, "leftPoints", "(I)I"⟩
abbrev cX5_rightPoints : ByteArray := prog_7_method_17_code
def yX5_rightPoints : MethodName := ⟨RX5, "rightPoints", "(I)I"⟩
abbrev cX5_afterLeft : ByteArray := prog_7_method_18_code
def yX5_afterLeft : MethodName := ⟨RX5, "afterLeft", "(II)I"⟩
abbrev cX5_afterRight : ByteArray := prog_7_method_19_code
def yX5_afterRight : MethodName := ⟨RX5, "afterRight", "(II)I"⟩
abbrev cX5_optimalHere : ByteArray := prog_7_method_20_code
def yX5_optimalHere : MethodName := ⟨RX5, "optimalHere", "(I)I"⟩
abbrev cX5_leftValue : ByteArray := prog_7_method_21_code
def yX5_leftValue : MethodName := ⟨RX5, "leftValue", "(II)I"⟩
abbrev cX5_rightValue : ByteArray := prog_7_method_22_code
def yX5_rightValue : MethodName := ⟨RX5, "rightValue", "(II)I"⟩
abbrev cX5_aheadHere : ByteArray := prog_7_method_23_code
def yX5_aheadHere : MethodName := ⟨RX5, "aheadHere", "(II)I"⟩
abbrev cX5_behindHere : ByteArray := prog_7_method_24_code
def yX5_behindHere : MethodName := ⟨RX5, "behindHere", "(I)I"⟩
def RX6 : String := "DominoChains$State"
def TX6 : u_T := fun k => match k with
  | 0 => ("DominoChains$State", "round", "I", false)
  | 1 => ("DominoChains$State", "starter", "I", false)
  | 2 => ("DominoChains$State", "mover", "I", false)
  | 3 => ("DominoChains$State", "passesInARow", "I", false)
  | 4 => ("DominoChains$State", "over", "Z", false)
  | 5 => ("DominoChains$State", "logged", "I", false)
  | 6 => ("DominoChains$State", "first", "[I", true)
  | 7 => ("DominoChains$State", "last", "[I", true)
  | 8 => ("DominoChains$State", "scores", "[I", true)
  | 9 => ("DominoChains$State", "burnt", "[I", true)
  | 10 => ("DominoChains$State", "passed", "[I", true)
  | 11 => ("DominoChains$State", "logCodes", "[I", true)
  | _ => ("DominoChains$State", "logPoints", "[I", true)
def tyX6 : Nat → FieldType := fun k => match k with
  | 0 => .int
  | 1 => .int
  | 2 => .int
  | 3 => .int
  | 4 => .boolean
  | 5 => .int
  | 6 => .array .int
  | 7 => .array .int
  | 8 => .array .int
  | 9 => .array .int
  | 10 => .array .int
  | 11 => .array .int
  | _ => .array .int
abbrev wsX60 : List Cond := u_ws RX6 TX6 13
theorem nmX6 : ∀ a, a < 13 → ∀ b, b < 13 → a ≠ b → (TX6 a).2.1 ≠ (TX6 b).2.1 := by decide +kernel
theorem tyX6_ok : ∀ k, k < 13 → parseFieldDescriptor (TX6 k).2.2.1 = some (tyX6 k) := by decide +kernel
abbrev cX6_init : ByteArray := prog_8_method_1_code
def yX6_init : MethodName := ⟨RX6, "<init>", "()V"⟩
abbrev cX6_copyFrom : ByteArray := prog_8_method_2_code
def yX6_copyFrom : MethodName := ⟨RX6, "copyFrom", "(LDominoChains$State;)V"⟩
abbrev cX6_clearCounts : ByteArray := prog_8_method_3_code
def yX6_clearCounts : MethodName := ⟨RX6, "clearCounts", "()V"⟩
abbrev cX6_log : ByteArray := prog_8_method_4_code
def yX6_log : MethodName := ⟨RX6, "log", "(II)V"⟩
def RX7 : String := "DominoChains$Text"
def TX7 : u_T := fun k => match k with
  | 0 => ("DominoChains$Text", "signs", "[I", true)
  | _ => ("DominoChains$Text", "length", "I", false)
def tyX7 : Nat → FieldType := fun k => match k with
  | 0 => .array .int
  | _ => .int
abbrev wsX70 : List Cond := u_ws RX7 TX7 2
theorem nmX7 : ∀ a, a < 2 → ∀ b, b < 2 → a ≠ b → (TX7 a).2.1 ≠ (TX7 b).2.1 := by decide +kernel
theorem tyX7_ok : ∀ k, k < 2 → parseFieldDescriptor (TX7 k).2.2.1 = some (tyX7 k) := by decide +kernel
abbrev cX7_init : ByteArray := prog_9_method_1_code
def yX7_init : MethodName := ⟨RX7, "<init>", "()V"⟩
abbrev cX7_add : ByteArray := prog_9_method_2_code
def yX7_add : MethodName := ⟨RX7, "add", "(I)V"⟩
abbrev cX7_showMoves : ByteArray := prog_9_method_3_code
def yX7_showMoves : MethodName := ⟨RX7, "showMoves", "(LDominoChains$State;I)V"⟩
def RX8 : String := "DominoChains"
def TX8 : u_T := fun k => match k with
  | 0 => ("DominoChains", "input", "[I", true)
  | 1 => ("DominoChains", "inputLength", "I", false)
  | 2 => ("DominoChains", "faultKind", "I", false)
  | 3 => ("DominoChains", "faultPosition", "I", false)
  | 4 => ("DominoChains", "parser", "LDominoChains$Parser;", true)
  | 5 => ("DominoChains", "match", "LDominoChains$Match;", true)
  | 6 => ("DominoChains", "trial", "LDominoChains$Match;", true)
  | 7 => ("DominoChains", "solver", "LDominoChains$Solver;", true)
  | 8 => ("DominoChains", "history", "LDominoChains$History;", true)
  | 9 => ("DominoChains", "saved", "LDominoChains$State;", true)
  | 10 => ("DominoChains", "hasSaved", "Z", false)
  | _ => ("DominoChains", "text", "LDominoChains$Text;", true)
def tyX8 : Nat → FieldType := fun k => match k with
  | 0 => .array .int
  | 1 => .int
  | 2 => .int
  | 3 => .int
  | 4 => .object "DominoChains$Parser"
  | 5 => .object "DominoChains$Match"
  | 6 => .object "DominoChains$Match"
  | 7 => .object "DominoChains$Solver"
  | 8 => .object "DominoChains$History"
  | 9 => .object "DominoChains$State"
  | 10 => .boolean
  | _ => .object "DominoChains$Text"
abbrev wsX80 : List Cond := u_ws RX8 TX8 12
theorem nmX8 : ∀ a, a < 12 → ∀ b, b < 12 → a ≠ b → (TX8 a).2.1 ≠ (TX8 b).2.1 := by decide +kernel
theorem tyX8_ok : ∀ k, k < 12 → parseFieldDescriptor (TX8 k).2.2.1 = some (tyX8 k) := by decide +kernel
abbrev cX8_init : ByteArray := prog_1_method_1_code
def yX8_init : MethodName := ⟨RX8, "<init>", "()V"⟩
abbrev cX8_append : ByteArray := prog_1_method_2_code
def yX8_append : MethodName := ⟨RX8, "append", "(IIIII)I"⟩
abbrev cX8_addWord : ByteArray := prog_1_method_3_code
def yX8_addWord : MethodName := ⟨RX8, "addWord", "(I)V"⟩
abbrev cX8_truncate : ByteArray := prog_1_method_4_code
def yX8_truncate : MethodName := ⟨RX8, "truncate", "(I)V"⟩
abbrev cX8_load : ByteArray := prog_1_method_5_code
def yX8_load : MethodName := ⟨RX8, "load", "()I"⟩
abbrev cX8_errorKind : ByteArray := prog_1_method_6_code
def yX8_errorKind : MethodName := ⟨RX8, "errorKind", "()I"⟩
abbrev cX8_errorPosition : ByteArray := prog_1_method_7_code
def yX8_errorPosition : MethodName := ⟨RX8, "errorPosition", "()I"⟩
abbrev cX8_roundCount : ByteArray := prog_1_method_8_code
def yX8_roundCount : MethodName := ⟨RX8, "roundCount", "()I"⟩
abbrev cX8_currentRound : ByteArray := prog_1_method_9_code
def yX8_currentRound : MethodName := ⟨RX8, "currentRound", "()I"⟩
abbrev cX8_isRoundOver : ByteArray := prog_1_method_10_code
def yX8_isRoundOver : MethodName := ⟨RX8, "isRoundOver", "()Z"⟩
abbrev cX8_isMatchOver : ByteArray := prog_1_method_11_code
def yX8_isMatchOver : MethodName := ⟨RX8, "isMatchOver", "()Z"⟩
abbrev cX8_roundWinner : ByteArray := prog_1_method_12_code
def yX8_roundWinner : MethodName := ⟨RX8, "roundWinner", "(I)I"⟩
abbrev cX8_roundsWon : ByteArray := prog_1_method_13_code
def yX8_roundsWon : MethodName := ⟨RX8, "roundsWon", "(I)I"⟩
abbrev cX8_matchWinner : ByteArray := prog_1_method_14_code
def yX8_matchWinner : MethodName := ⟨RX8, "matchWinner", "()I"⟩
abbrev cX8_playerToMove : ByteArray := prog_1_method_15_code
def yX8_playerToMove : MethodName := ⟨RX8, "playerToMove", "()I"⟩
abbrev cX8_roundScore : ByteArray := prog_1_method_16_code
def yX8_roundScore : MethodName := ⟨RX8, "roundScore", "(II)I"⟩
abbrev cX8_totalScore : ByteArray := prog_1_method_17_code
def yX8_totalScore : MethodName := ⟨RX8, "totalScore", "(I)I"⟩
abbrev cX8_tilesBurnt : ByteArray := prog_1_method_18_code
def yX8_tilesBurnt : MethodName := ⟨RX8, "tilesBurnt", "(I)I"⟩
abbrev cX8_passes : ByteArray := prog_1_method_19_code
def yX8_passes : MethodName := ⟨RX8, "passes", "(I)I"⟩
abbrev cX8_meanTileScore : ByteArray := prog_1_method_20_code
def yX8_meanTileScore : MethodName := ⟨RX8, "meanTileScore", "(I)D"⟩
abbrev cX8_chainCount : ByteArray := prog_1_method_21_code
def yX8_chainCount : MethodName := ⟨RX8, "chainCount", "()I"⟩
abbrev cX8_chainLength : ByteArray := prog_1_method_22_code
def yX8_chainLength : MethodName := ⟨RX8, "chainLength", "(I)I"⟩
abbrev cX8_leftPips : ByteArray := prog_1_method_23_code
def yX8_leftPips : MethodName := ⟨RX8, "leftPips", "(II)I"⟩
abbrev cX8_rightPips : ByteArray := prog_1_method_24_code
def yX8_rightPips : MethodName := ⟨RX8, "rightPips", "(II)I"⟩
abbrev cX8_tileScore : ByteArray := prog_1_method_25_code
def yX8_tileScore : MethodName := ⟨RX8, "tileScore", "(II)I"⟩
abbrev cX8_chainScore : ByteArray := prog_1_method_26_code
def yX8_chainScore : MethodName := ⟨RX8, "chainScore", "(I)I"⟩
abbrev cX8_remainingScore : ByteArray := prog_1_method_27_code
def yX8_remainingScore : MethodName := ⟨RX8, "remainingScore", "()I"⟩
abbrev cX8_tilesWith : ByteArray := prog_1_method_28_code
def yX8_tilesWith : MethodName := ⟨RX8, "tilesWith", "(I)I"⟩
abbrev cX8_doubleCount : ByteArray := prog_1_method_29_code
def yX8_doubleCount : MethodName := ⟨RX8, "doubleCount", "()I"⟩
abbrev cX8_moveCount : ByteArray := prog_1_method_30_code
def yX8_moveCount : MethodName := ⟨RX8, "moveCount", "()I"⟩
abbrev cX8_isPass : ByteArray := prog_1_method_31_code
def yX8_isPass : MethodName := ⟨RX8, "isPass", "(I)Z"⟩
abbrev cX8_moveChain : ByteArray := prog_1_method_32_code
def yX8_moveChain : MethodName := ⟨RX8, "moveChain", "(I)I"⟩
abbrev cX8_isLeftBurn : ByteArray := prog_1_method_33_code
def yX8_isLeftBurn : MethodName := ⟨RX8, "isLeftBurn", "(I)Z"⟩
abbrev cX8_moveScore : ByteArray := prog_1_method_34_code
def yX8_moveScore : MethodName := ⟨RX8, "moveScore", "(I)I"⟩
abbrev cX8_loggedMoveCount : ByteArray := prog_1_method_35_code
def yX8_loggedMoveCount : MethodName := ⟨RX8, "loggedMoveCount", "()I"⟩
abbrev cX8_loggedScore : ByteArray := prog_1_method_36_code
def yX8_loggedScore : MethodName := ⟨RX8, "loggedScore", "(I)I"⟩
abbrev cX8_loggedChain : ByteArray := prog_1_method_37_code
def yX8_loggedChain : MethodName := ⟨RX8, "loggedChain", "(I)I"⟩
abbrev cX8_highestEndScore : ByteArray := prog_1_method_38_code
def yX8_highestEndScore : MethodName := ⟨RX8, "highestEndScore", "()I"⟩
abbrev cX8_burnsLeft : ByteArray := prog_1_method_39_code
def yX8_burnsLeft : MethodName := ⟨RX8, "burnsLeft", "()I"⟩
abbrev cX8_greatestPossibleScore : ByteArray := prog_1_method_40_code
def yX8_greatestPossibleScore : MethodName := ⟨RX8, "greatestPossibleScore", "(I)I"⟩
abbrev cX8_canStillWin : ByteArray := prog_1_method_41_code
def yX8_canStillWin : MethodName := ⟨RX8, "canStillWin", "(I)Z"⟩
abbrev cX8_optimalDifference : ByteArray := prog_1_method_42_code
def yX8_optimalDifference : MethodName := ⟨RX8, "optimalDifference", "()I"⟩
abbrev cX8_moveValue : ByteArray := prog_1_method_43_code
def yX8_moveValue : MethodName := ⟨RX8, "moveValue", "(I)I"⟩
abbrev cX8_optimalMove : ByteArray := prog_1_method_44_code
def yX8_optimalMove : MethodName := ⟨RX8, "optimalMove", "()I"⟩
abbrev cX8_worstMove : ByteArray := prog_1_method_45_code
def yX8_worstMove : MethodName := ⟨RX8, "worstMove", "()I"⟩
abbrev cX8_optimalMoveCount : ByteArray := prog_1_method_46_code
def yX8_optimalMoveCount : MethodName := ⟨RX8, "optimalMoveCount", "()I"⟩
abbrev cX8_isPassForced : ByteArray := prog_1_method_47_code
def yX8_isPassForced : MethodName := ⟨RX8, "isPassForced", "()Z"⟩
abbrev cX8_optimalLineLength : ByteArray := prog_1_method_48_code
def yX8_optimalLineLength : MethodName := ⟨RX8, "optimalLineLength", "()I"⟩
abbrev cX8_optimalLineScore : ByteArray := prog_1_method_49_code
def yX8_optimalLineScore : MethodName := ⟨RX8, "optimalLineScore", "(I)I"⟩
abbrev cX8_chainDifference : ByteArray := prog_1_method_50_code
def yX8_chainDifference : MethodName := ⟨RX8, "chainDifference", "(I)I"⟩
abbrev cX8_expectedLead : ByteArray := prog_1_method_51_code
def yX8_expectedLead : MethodName := ⟨RX8, "expectedLead", "()I"⟩
abbrev cX8_firstBest : ByteArray := prog_1_method_52_code
def yX8_firstBest : MethodName := ⟨RX8, "firstBest", "(LDominoChains$Match;)I"⟩
abbrev cX8_countBest : ByteArray := prog_1_method_53_code
def yX8_countBest : MethodName := ⟨RX8, "countBest", "()I"⟩
abbrev cX8_playBest : ByteArray := prog_1_method_54_code
def yX8_playBest : MethodName := ⟨RX8, "playBest", "(LDominoChains$Match;I)I"⟩
abbrev cX8_tryOptimalLine : ByteArray := prog_1_method_55_code
def yX8_tryOptimalLine : MethodName := ⟨RX8, "tryOptimalLine", "()V"⟩
abbrev cX8_greedyMove : ByteArray := prog_1_method_56_code
def yX8_greedyMove : MethodName := ⟨RX8, "greedyMove", "()I"⟩
abbrev cX8_greedyDifference : ByteArray := prog_1_method_57_code
def yX8_greedyDifference : MethodName := ⟨RX8, "greedyDifference", "()I"⟩
abbrev cX8_differenceAgainstGreedy : ByteArray := prog_1_method_58_code
def yX8_differenceAgainstGreedy : MethodName := ⟨RX8, "differenceAgainstGreedy", "()I"⟩
abbrev cX8_greedyAgainstBest : ByteArray := prog_1_method_59_code
def yX8_greedyAgainstBest : MethodName := ⟨RX8, "greedyAgainstBest", "()I"⟩
abbrev cX8_burn : ByteArray := prog_1_method_60_code
def yX8_burn : MethodName := ⟨RX8, "burn", "(IZ)I"⟩
abbrev cX8_pass : ByteArray := prog_1_method_61_code
def yX8_pass : MethodName := ⟨RX8, "pass", "()Z"⟩
abbrev cX8_playOptimally : ByteArray := prog_1_method_62_code
def yX8_playOptimally : MethodName := ⟨RX8, "playOptimally", "(I)I"⟩
abbrev cX8_startNextRound : ByteArray := prog_1_method_63_code
def yX8_startNextRound : MethodName := ⟨RX8, "startNextRound", "()I"⟩
abbrev cX8_undo : ByteArray := prog_1_method_64_code
def yX8_undo : MethodName := ⟨RX8, "undo", "()I"⟩
abbrev cX8_save : ByteArray := prog_1_method_65_code
def yX8_save : MethodName := ⟨RX8, "save", "()I"⟩
abbrev cX8_restore : ByteArray := prog_1_method_66_code
def yX8_restore : MethodName := ⟨RX8, "restore", "()I"⟩
abbrev cX8_formatChain : ByteArray := prog_1_method_67_code
def yX8_formatChain : MethodName := ⟨RX8, "formatChain", "(I)I"⟩
abbrev cX8_formatLog : ByteArray := prog_1_method_68_code
def yX8_formatLog : MethodName := ⟨RX8, "formatLog", "()I"⟩
abbrev cX8_formatOptimalLine : ByteArray := prog_1_method_69_code
def yX8_formatOptimalLine : MethodName := ⟨RX8, "formatOptimalLine", "()I"⟩
abbrev cX8_formattedCharacter : ByteArray := prog_1_method_70_code
def yX8_formattedCharacter : MethodName := ⟨RX8, "formattedCharacter", "(I)C"⟩
abbrev cX8_needPlayer : ByteArray := prog_1_method_71_code
def yX8_needPlayer : MethodName := ⟨RX8, "needPlayer", "(I)V"⟩
abbrev cX8_needRound : ByteArray := prog_1_method_72_code
def yX8_needRound : MethodName := ⟨RX8, "needRound", "(I)V"⟩
abbrev cX8_needChain : ByteArray := prog_1_method_73_code
def yX8_needChain : MethodName := ⟨RX8, "needChain", "(I)V"⟩
abbrev cX8_needTile : ByteArray := prog_1_method_74_code
def yX8_needTile : MethodName := ⟨RX8, "needTile", "(II)V"⟩
abbrev cX8_needLogged : ByteArray := prog_1_method_75_code
def yX8_needLogged : MethodName := ⟨RX8, "needLogged", "(I)V"⟩
abbrev cX8_neededCode : ByteArray := prog_1_method_76_code
def yX8_neededCode : MethodName := ⟨RX8, "neededCode", "(I)I"⟩
abbrev cX8_burnCode : ByteArray := prog_1_method_77_code
def yX8_burnCode : MethodName := ⟨RX8, "burnCode", "(IZ)I"⟩
abbrev cX8_chainOfCode : ByteArray := prog_1_method_78_code
def yX8_chainOfCode : MethodName := ⟨RX8, "chainOfCode", "(I)I"⟩
abbrev cX8_isLeftCode : ByteArray := prog_1_method_79_code
def yX8_isLeftCode : MethodName := ⟨RX8, "isLeftCode", "(I)Z"⟩
abbrev cX8_leader : ByteArray := prog_1_method_80_code
def yX8_leader : MethodName := ⟨RX8, "leader", "(I)I"⟩
abbrev cX8_at : ByteArray := prog_1_method_81_code
def yX8_at : MethodName := ⟨RX8, "at", "([II)I"⟩
abbrev cX8_put : ByteArray := prog_1_method_82_code
def yX8_put : MethodName := ⟨RX8, "put", "([III)V"⟩
abbrev cX8_copyRow : ByteArray := prog_1_method_83_code
def yX8_copyRow : MethodName := ⟨RX8, "copyRow", "([I[I)V"⟩
def RX9 : String := "DominoChainsModel"
def TX9 : u_T := fun k => match k with
  | 0 => ("DominoChainsModel", "thrown", "I", false)
  | 1 => ("DominoChainsModel", "matches", "[I", true)
  | 2 => ("DominoChainsModel", "at", "I", false)
  | 3 => ("DominoChainsModel", "edits", "I", false)
  | 4 => ("DominoChainsModel", "firstEdit", "I", false)
  | 5 => ("DominoChainsModel", "isSaved", "Z", false)
  | 6 => ("DominoChainsModel", "buffer", "[B", true)
  | 7 => ("DominoChainsModel", "buffered", "I", false)
  | 8 => ("DominoChainsModel", "errorKind", "I", false)
  | 9 => ("DominoChainsModel", "errorPosition", "I", false)
  | 10 => ("DominoChainsModel", "formatted", "[C", true)
  | 11 => ("DominoChainsModel", "formattedLength", "I", false)
  | 12 => ("DominoChainsModel", "values", "[I", true)
  | 13 => ("DominoChainsModel", "place", "I", false)
  | 14 => ("DominoChainsModel", "start", "I", false)
  | 15 => ("DominoChainsModel", "sort", "I", false)
  | _ => ("DominoChainsModel", "fault", "I", false)
def tyX9 : Nat → FieldType := fun k => match k with
  | 0 => .int
  | 1 => .array .int
  | 2 => .int
  | 3 => .int
  | 4 => .int
  | 5 => .boolean
  | 6 => .array .byte
  | 7 => .int
  | 8 => .int
  | 9 => .int
  | 10 => .array .char
  | 11 => .int
  | 12 => .array .int
  | 13 => .int
  | 14 => .int
  | 15 => .int
  | _ => .int
abbrev wsX90 : List Cond := u_ws RX9 TX9 17
theorem nmX9 : ∀ a, a < 17 → ∀ b, b < 17 → a ≠ b → (TX9 a).2.1 ≠ (TX9 b).2.1 := by decide +kernel
theorem tyX9_ok : ∀ k, k < 17 → parseFieldDescriptor (TX9 k).2.2.1 = some (tyX9 k) := by decide +kernel
abbrev cX9_init : ByteArray := prog_11_method_1_code
def yX9_init : MethodName := ⟨RX9, "<init>", "()V"⟩
abbrev cX9_thrown : ByteArray := prog_11_method_2_code
def yX9_thrown : MethodName := ⟨RX9, "thrown", "()I"⟩
abbrev cX9_fails : ByteArray := prog_11_method_3_code
def yX9_fails : MethodName := ⟨RX9, "fails", "(I)I"⟩
abbrev cX9_get : ByteArray := prog_11_method_4_code
def yX9_get : MethodName := ⟨RX9, "get", "(I)I"⟩
abbrev cX9_set : ByteArray := prog_11_method_5_code
def yX9_set : MethodName := ⟨RX9, "set", "(II)V"⟩
abbrev cX9_adds : ByteArray := prog_11_method_6_code
def yX9_adds : MethodName := ⟨RX9, "adds", "(II)V"⟩
abbrev cX9_copies : ByteArray := prog_11_method_7_code
def yX9_copies : MethodName := ⟨RX9, "copies", "(II)V"⟩
abbrev cX9_records : ByteArray := prog_11_method_8_code
def yX9_records : MethodName := ⟨RX9, "records", "()V"⟩
abbrev cX9_begins : ByteArray := prog_11_method_9_code
def yX9_begins : MethodName := ⟨RX9, "begins", "()V"⟩
abbrev cX9_deals : ByteArray := prog_11_method_10_code
def yX9_deals : MethodName := ⟨RX9, "deals", "(I)V"⟩
abbrev cX9_chains : ByteArray := prog_11_method_11_code
def yX9_chains : MethodName := ⟨RX9, "chains", "()I"⟩
abbrev cX9_isChain : ByteArray := prog_11_method_12_code
def yX9_isChain : MethodName := ⟨RX9, "isChain", "(I)Z"⟩
abbrev cX9_isPlayer : ByteArray := prog_11_method_13_code
def yX9_isPlayer : MethodName := ⟨RX9, "isPlayer", "(I)Z"⟩
abbrev cX9_isRound : ByteArray := prog_11_method_14_code
def yX9_isRound : MethodName := ⟨RX9, "isRound", "(I)Z"⟩
abbrev cX9_lengthOf : ByteArray := prog_11_method_15_code
def yX9_lengthOf : MethodName := ⟨RX9, "lengthOf", "(I)I"⟩
abbrev cX9_tilePlace : ByteArray := prog_11_method_16_code
def yX9_tilePlace : MethodName := ⟨RX9, "tilePlace", "(III)I"⟩
abbrev cX9_laid : ByteArray := prog_11_method_17_code
def yX9_laid : MethodName := ⟨RX9, "laid", "(II)I"⟩
abbrev cX9_isDouble : ByteArray := prog_11_method_18_code
def yX9_isDouble : MethodName := ⟨RX9, "isDouble", "(I)Z"⟩
abbrev cX9_hasPips : ByteArray := prog_11_method_19_code
def yX9_hasPips : MethodName := ⟨RX9, "hasPips", "(II)Z"⟩
abbrev cX9_scoreOf : ByteArray := prog_11_method_20_code
def yX9_scoreOf : MethodName := ⟨RX9, "scoreOf", "(I)I"⟩
abbrev cX9_isBurnable : ByteArray := prog_11_method_21_code
def yX9_isBurnable : MethodName := ⟨RX9, "isBurnable", "(I)Z"⟩
abbrev cX9_scoreAt : ByteArray := prog_11_method_22_code
def yX9_scoreAt : MethodName := ⟨RX9, "scoreAt", "(II)I"⟩
abbrev cX9_areShort : ByteArray := prog_11_method_23_code
def yX9_areShort : MethodName := ⟨RX9, "areShort", "()Z"⟩
abbrev cX9_isOver : ByteArray := prog_11_method_24_code
def yX9_isOver : MethodName := ⟨RX9, "isOver", "()Z"⟩
abbrev cX9_moves : ByteArray := prog_11_method_25_code
def yX9_moves : MethodName := ⟨RX9, "moves", "()I"⟩
abbrev cX9_moveAt : ByteArray := prog_11_method_26_code
def yX9_moveAt : MethodName := ⟨RX9, "moveAt", "(I)I"⟩
abbrev cX9_scoreOfMove : ByteArray := prog_11_method_27_code
def yX9_scoreOfMove : MethodName := ⟨RX9, "scoreOfMove", "(I)I"⟩
abbrev cX9_makes : ByteArray := prog_11_method_28_code
def yX9_makes : MethodName := ⟨RX9, "makes", "(I)V"⟩
abbrev cX9_removes : ByteArray := prog_11_method_29_code
def yX9_removes : MethodName := ⟨RX9, "removes", "(I)V"⟩
abbrev cX9_putsBack : ByteArray := prog_11_method_30_code
def yX9_putsBack : MethodName := ⟨RX9, "putsBack", "(I)V"⟩
abbrev cX9_position : ByteArray := prog_11_method_31_code
def yX9_position : MethodName := ⟨RX9, "position", "()I"⟩
abbrev cX9_forgets : ByteArray := prog_11_method_32_code
def yX9_forgets : MethodName := ⟨RX9, "forgets", "()V"⟩
abbrev cX9_valuePlace : ByteArray := prog_11_method_33_code
def yX9_valuePlace : MethodName := ⟨RX9, "valuePlace", "(Z)I"⟩
abbrev cX9_optimal : ByteArray := prog_11_method_34_code
def yX9_optimal : MethodName := ⟨RX9, "optimal", "(Z)I"⟩
abbrev cX9_optimalOf : ByteArray := prog_11_method_35_code
def yX9_optimalOf : MethodName := ⟨RX9, "optimalOf", "(Z)I"⟩
abbrev cX9_burnValue : ByteArray := prog_11_method_36_code
def yX9_burnValue : MethodName := ⟨RX9, "burnValue", "(I)I"⟩
abbrev cX9_valueOf : ByteArray := prog_11_method_37_code
def yX9_valueOf : MethodName := ⟨RX9, "valueOf", "(I)I"⟩
abbrev cX9_optimalNow : ByteArray := prog_11_method_38_code
def yX9_optimalNow : MethodName := ⟨RX9, "optimalNow", "()I"⟩
abbrev cX9_firstOptimal : ByteArray := prog_11_method_39_code
def yX9_firstOptimal : MethodName := ⟨RX9, "firstOptimal", "()I"⟩
abbrev cX9_tries : ByteArray := prog_11_method_40_code
def yX9_tries : MethodName := ⟨RX9, "tries", "()V"⟩
abbrev cX9_goesAlong : ByteArray := prog_11_method_41_code
def yX9_goesAlong : MethodName := ⟨RX9, "goesAlong", "(I)I"⟩
abbrev cX9_greedy : ByteArray := prog_11_method_42_code
def yX9_greedy : MethodName := ⟨RX9, "greedy", "()I"⟩
abbrev cX9_againstGreedy : ByteArray := prog_11_method_43_code
def yX9_againstGreedy : MethodName := ⟨RX9, "againstGreedy", "(Z)I"⟩
abbrev cX9_behindGreedy : ByteArray := prog_11_method_44_code
def yX9_behindGreedy : MethodName := ⟨RX9, "behindGreedy", "()I"⟩
abbrev cX9_isIn : ByteArray := prog_11_method_45_code
def yX9_isIn : MethodName := ⟨RX9, "isIn", "(III)Z"⟩
abbrev cX9_faults : ByteArray := prog_11_method_46_code
def yX9_faults : MethodName := ⟨RX9, "faults", "(I)Z"⟩
abbrev cX9_token : ByteArray := prog_11_method_47_code
def yX9_token : MethodName := ⟨RX9, "token", "()Z"⟩
abbrev cX9_is : ByteArray := prog_11_method_48_code
def yX9_is : MethodName := ⟨RX9, "is", "(I)Z"⟩
abbrev cX9_letterIs : ByteArray := prog_11_method_49_code
def yX9_letterIs : MethodName := ⟨RX9, "letterIs", "(II)Z"⟩
abbrev cX9_isWord : ByteArray := prog_11_method_50_code
def yX9_isWord : MethodName := ⟨RX9, "isWord", "(IIIII)Z"⟩
abbrev cX9_isRoundWord : ByteArray := prog_11_method_51_code
def yX9_isRoundWord : MethodName := ⟨RX9, "isRoundWord", "()Z"⟩
abbrev cX9_reads : ByteArray := prog_11_method_52_code
def yX9_reads : MethodName := ⟨RX9, "reads", "()Z"⟩
abbrev cX9_readsRound : ByteArray := prog_11_method_53_code
def yX9_readsRound : MethodName := ⟨RX9, "readsRound", "()Z"⟩
abbrev cX9_readsChain : ByteArray := prog_11_method_54_code
def yX9_readsChain : MethodName := ⟨RX9, "readsChain", "(I)Z"⟩
abbrev cX9_isThere : ByteArray := prog_11_method_55_code
def yX9_isThere : MethodName := ⟨RX9, "isThere", "(II)Z"⟩
abbrev cX9_readsMove : ByteArray := prog_11_method_56_code
def yX9_readsMove : MethodName := ⟨RX9, "readsMove", "()Z"⟩
abbrev cX9_readsBurn : ByteArray := prog_11_method_57_code
def yX9_readsBurn : MethodName := ⟨RX9, "readsBurn", "(I)Z"⟩
abbrev cX9_feeds : ByteArray := prog_11_method_58_code
def yX9_feeds : MethodName := ⟨RX9, "feeds", "(I)V"⟩
abbrev cX9_append : ByteArray := prog_11_method_59_code
def yX9_append : MethodName := ⟨RX9, "append", "(IIIII)I"⟩
abbrev cX9_truncate : ByteArray := prog_11_method_60_code
def yX9_truncate : MethodName := ⟨RX9, "truncate", "(I)V"⟩
abbrev cX9_load : ByteArray := prog_11_method_61_code
def yX9_load : MethodName := ⟨RX9, "load", "()I"⟩
abbrev cX9_errorKind : ByteArray := prog_11_method_62_code
def yX9_errorKind : MethodName := ⟨RX9, "errorKind", "()I"⟩
abbrev cX9_errorPosition : ByteArray := prog_11_method_63_code
def yX9_errorPosition : MethodName := ⟨RX9, "errorPosition", "()I"⟩
abbrev cX9_roundCount : ByteArray := prog_11_method_64_code
def yX9_roundCount : MethodName := ⟨RX9, "roundCount", "()I"⟩
abbrev cX9_currentRound : ByteArray := prog_11_method_65_code
def yX9_currentRound : MethodName := ⟨RX9, "currentRound", "()I"⟩
abbrev cX9_isRoundOver : ByteArray := prog_11_method_66_code
def yX9_isRoundOver : MethodName := ⟨RX9, "isRoundOver", "()Z"⟩
abbrev cX9_isLast : ByteArray := prog_11_method_67_code
def yX9_isLast : MethodName := ⟨RX9, "isLast", "()Z"⟩
abbrev cX9_isMatchOver : ByteArray := prog_11_method_68_code
def yX9_isMatchOver : MethodName := ⟨RX9, "isMatchOver", "()Z"⟩
abbrev cX9_scoreIn : ByteArray := prog_11_method_69_code
def yX9_scoreIn : MethodName := ⟨RX9, "scoreIn", "(II)I"⟩
abbrev cX9_winnerOf : ByteArray := prog_11_method_70_code
def yX9_winnerOf : MethodName := ⟨RX9, "winnerOf", "(I)I"⟩
abbrev cX9_roundWinner : ByteArray := prog_11_method_71_code
def yX9_roundWinner : MethodName := ⟨RX9, "roundWinner", "(I)I"⟩
abbrev cX9_wonBy : ByteArray := prog_11_method_72_code
def yX9_wonBy : MethodName := ⟨RX9, "wonBy", "(I)I"⟩
abbrev cX9_roundsWon : ByteArray := prog_11_method_73_code
def yX9_roundsWon : MethodName := ⟨RX9, "roundsWon", "(I)I"⟩
abbrev cX9_scoreNow : ByteArray := prog_11_method_74_code
def yX9_scoreNow : MethodName := ⟨RX9, "scoreNow", "(I)I"⟩
abbrev cX9_totalOf : ByteArray := prog_11_method_75_code
def yX9_totalOf : MethodName := ⟨RX9, "totalOf", "(I)I"⟩
abbrev cX9_matchWinner : ByteArray := prog_11_method_76_code
def yX9_matchWinner : MethodName := ⟨RX9, "matchWinner", "()I"⟩
abbrev cX9_playerToMove : ByteArray := prog_11_method_77_code
def yX9_playerToMove : MethodName := ⟨RX9, "playerToMove", "()I"⟩
abbrev cX9_roundScore : ByteArray := prog_11_method_78_code
def yX9_roundScore : MethodName := ⟨RX9, "roundScore", "(II)I"⟩
abbrev cX9_totalScore : ByteArray := prog_11_method_79_code
def yX9_totalScore : MethodName := ⟨RX9, "totalScore", "(I)I"⟩
abbrev cX9_tilesBurnt : ByteArray := prog_11_method_80_code
def yX9_tilesBurnt : MethodName := ⟨RX9, "tilesBurnt", "(I)I"⟩
abbrev cX9_passes : ByteArray := prog_11_method_81_code
def yX9_passes : MethodName := ⟨RX9, "passes", "(I)I"⟩
abbrev cX9_meanTileScore : ByteArray := prog_11_method_82_code
def yX9_meanTileScore : MethodName := ⟨RX9, "meanTileScore", "(I)D"⟩
abbrev cX9_chainCount : ByteArray := prog_11_method_83_code
def yX9_chainCount : MethodName := ⟨RX9, "chainCount", "()I"⟩
abbrev cX9_chainLength : ByteArray := prog_11_method_84_code
def yX9_chainLength : MethodName := ⟨RX9, "chainLength", "(I)I"⟩
abbrev cX9_isTile : ByteArray := prog_11_method_85_code
def yX9_isTile : MethodName := ⟨RX9, "isTile", "(II)Z"⟩
abbrev cX9_tileOf : ByteArray := prog_11_method_86_code
def yX9_tileOf : MethodName := ⟨RX9, "tileOf", "(II)I"⟩
abbrev cX9_leftPips : ByteArray := prog_11_method_87_code
def yX9_leftPips : MethodName := ⟨RX9, "leftPips", "(II)I"⟩
abbrev cX9_rightPips : ByteArray := prog_11_method_88_code
def yX9_rightPips : MethodName := ⟨RX9, "rightPips", "(II)I"⟩
abbrev cX9_tileScore : ByteArray := prog_11_method_89_code
def yX9_tileScore : MethodName := ⟨RX9, "tileScore", "(II)I"⟩
abbrev cX9_sumOf : ByteArray := prog_11_method_90_code
def yX9_sumOf : MethodName := ⟨RX9, "sumOf", "(I)I"⟩
abbrev cX9_chainScore : ByteArray := prog_11_method_91_code
def yX9_chainScore : MethodName := ⟨RX9, "chainScore", "(I)I"⟩
abbrev cX9_remainingScore : ByteArray := prog_11_method_92_code
def yX9_remainingScore : MethodName := ⟨RX9, "remainingScore", "()I"⟩
abbrev cX9_tilesWith : ByteArray := prog_11_method_93_code
def yX9_tilesWith : MethodName := ⟨RX9, "tilesWith", "(I)I"⟩
abbrev cX9_doubleCount : ByteArray := prog_11_method_94_code
def yX9_doubleCount : MethodName := ⟨RX9, "doubleCount", "()I"⟩
abbrev cX9_moveCount : ByteArray := prog_11_method_95_code
def yX9_moveCount : MethodName := ⟨RX9, "moveCount", "()I"⟩
abbrev cX9_isMove : ByteArray := prog_11_method_96_code
def yX9_isMove : MethodName := ⟨RX9, "isMove", "(I)Z"⟩
abbrev cX9_isPass : ByteArray := prog_11_method_97_code
def yX9_isPass : MethodName := ⟨RX9, "isPass", "(I)Z"⟩
abbrev cX9_moveChain : ByteArray := prog_11_method_98_code
def yX9_moveChain : MethodName := ⟨RX9, "moveChain", "(I)I"⟩
abbrev cX9_isLeftBurn : ByteArray := prog_11_method_99_code
def yX9_isLeftBurn : MethodName := ⟨RX9, "isLeftBurn", "(I)Z"⟩
abbrev cX9_moveScore : ByteArray := prog_11_method_100_code
def yX9_moveScore : MethodName := ⟨RX9, "moveScore", "(I)I"⟩
abbrev cX9_loggedMoveCount : ByteArray := prog_11_method_101_code
def yX9_loggedMoveCount : MethodName := ⟨RX9, "loggedMoveCount", "()I"⟩
abbrev cX9_loggedScore : ByteArray := prog_11_method_102_code
def yX9_loggedScore : MethodName := ⟨RX9, "loggedScore", "(I)I"⟩
abbrev cX9_loggedChain : ByteArray := prog_11_method_103_code
def yX9_loggedChain : MethodName := ⟨RX9, "loggedChain", "(I)I"⟩
abbrev cX9_highestEndScore : ByteArray := prog_11_method_104_code
def yX9_highestEndScore : MethodName := ⟨RX9, "highestEndScore", "()I"⟩
abbrev cX9_burnsLeft : ByteArray := prog_11_method_105_code
def yX9_burnsLeft : MethodName := ⟨RX9, "burnsLeft", "()I"⟩
abbrev cX9_lowestOf : ByteArray := prog_11_method_106_code
def yX9_lowestOf : MethodName := ⟨RX9, "lowestOf", "(I)I"⟩
abbrev cX9_greatestOf : ByteArray := prog_11_method_107_code
def yX9_greatestOf : MethodName := ⟨RX9, "greatestOf", "(I)I"⟩
abbrev cX9_greatestPossibleScore : ByteArray := prog_11_method_108_code
def yX9_greatestPossibleScore : MethodName := ⟨RX9, "greatestPossibleScore", "(I)I"⟩
abbrev cX9_canStillWin : ByteArray := prog_11_method_109_code
def yX9_canStillWin : MethodName := ⟨RX9, "canStillWin", "(I)Z"⟩
abbrev cX9_worstMove : ByteArray := prog_11_method_110_code
def yX9_worstMove : MethodName := ⟨RX9, "worstMove", "()I"⟩
abbrev cX9_optimalDifference : ByteArray := prog_11_method_111_code
def yX9_optimalDifference : MethodName := ⟨RX9, "optimalDifference", "()I"⟩
abbrev cX9_moveValue : ByteArray := prog_11_method_112_code
def yX9_moveValue : MethodName := ⟨RX9, "moveValue", "(I)I"⟩
abbrev cX9_optimalMove : ByteArray := prog_11_method_113_code
def yX9_optimalMove : MethodName := ⟨RX9, "optimalMove", "()I"⟩
abbrev cX9_manyOptimal : ByteArray := prog_11_method_114_code
def yX9_manyOptimal : MethodName := ⟨RX9, "manyOptimal", "()I"⟩
abbrev cX9_optimalMoveCount : ByteArray := prog_11_method_115_code
def yX9_optimalMoveCount : MethodName := ⟨RX9, "optimalMoveCount", "()I"⟩
abbrev cX9_isPassForced : ByteArray := prog_11_method_116_code
def yX9_isPassForced : MethodName := ⟨RX9, "isPassForced", "()Z"⟩
abbrev cX9_optimalLineLength : ByteArray := prog_11_method_117_code
def yX9_optimalLineLength : MethodName := ⟨RX9, "optimalLineLength", "()I"⟩
abbrev cX9_optimalLineScore : ByteArray := prog_11_method_118_code
def yX9_optimalLineScore : MethodName := ⟨RX9, "optimalLineScore", "(I)I"⟩
abbrev cX9_chainDifference : ByteArray := prog_11_method_119_code
def yX9_chainDifference : MethodName := ⟨RX9, "chainDifference", "(I)I"⟩
abbrev cX9_expectedLead : ByteArray := prog_11_method_120_code
def yX9_expectedLead : MethodName := ⟨RX9, "expectedLead", "()I"⟩
abbrev cX9_greedyMove : ByteArray := prog_11_method_121_code
def yX9_greedyMove : MethodName := ⟨RX9, "greedyMove", "()I"⟩
abbrev cX9_greedyDifference : ByteArray := prog_11_method_122_code
def yX9_greedyDifference : MethodName := ⟨RX9, "greedyDifference", "()I"⟩
abbrev cX9_differenceAgainstGreedy : ByteArray := prog_11_method_123_code
def yX9_differenceAgainstGreedy : MethodName := ⟨RX9, "differenceAgainstGreedy", "()I"⟩
abbrev cX9_greedyAgainstBest : ByteArray := prog_11_method_124_code
def yX9_greedyAgainstBest : MethodName := ⟨RX9, "greedyAgainstBest", "()I"⟩
abbrev cX9_burn : ByteArray := prog_11_method_125_code
def yX9_burn : MethodName := ⟨RX9, "burn", "(IZ)I"⟩
abbrev cX9_pass : ByteArray := prog_11_method_126_code
def yX9_pass : MethodName := ⟨RX9, "pass", "()Z"⟩
abbrev cX9_playOptimally : ByteArray := prog_11_method_127_code
def yX9_playOptimally : MethodName := ⟨RX9, "playOptimally", "(I)I"⟩
abbrev cX9_goesOn : ByteArray := prog_11_method_128_code
def yX9_goesOn : MethodName := ⟨RX9, "goesOn", "()V"⟩
abbrev cX9_startNextRound : ByteArray := prog_11_method_129_code
def yX9_startNextRound : MethodName := ⟨RX9, "startNextRound", "()I"⟩
abbrev cX9_undo : ByteArray := prog_11_method_130_code
def yX9_undo : MethodName := ⟨RX9, "undo", "()I"⟩
abbrev cX9_save : ByteArray := prog_11_method_131_code
def yX9_save : MethodName := ⟨RX9, "save", "()I"⟩
abbrev cX9_restore : ByteArray := prog_11_method_132_code
def yX9_restore : MethodName := ⟨RX9, "restore", "()I"⟩
abbrev cX9_writes : ByteArray := prog_11_method_133_code
def yX9_writes : MethodName := ⟨RX9, "writes", "(I)V"⟩
abbrev cX9_formatChain : ByteArray := prog_11_method_134_code
def yX9_formatChain : MethodName := ⟨RX9, "formatChain", "(I)I"⟩
abbrev cX9_writesLog : ByteArray := prog_11_method_135_code
def yX9_writesLog : MethodName := ⟨RX9, "writesLog", "(I)V"⟩
abbrev cX9_formatLog : ByteArray := prog_11_method_136_code
def yX9_formatLog : MethodName := ⟨RX9, "formatLog", "()I"⟩
abbrev cX9_formatOptimalLine : ByteArray := prog_11_method_137_code
def yX9_formatOptimalLine : MethodName := ⟨RX9, "formatOptimalLine", "()I"⟩
abbrev cX9_formattedCharacter : ByteArray := prog_11_method_138_code
def yX9_formattedCharacter : MethodName := ⟨RX9, "formattedCharacter", "(I)C"⟩
def RJx145de : String := "java/io/Serializable"
def TJx145de : u_T := fun k => match k with
  | _ => ("", "", "", false)
def tyJx145de : Nat → FieldType := fun k => match k with
  | _ => .int
abbrev wsJx145de0 : List Cond := u_ws RJx145de TJx145de 0
theorem nmJx145de : ∀ a, a < 0 → ∀ b, b < 0 → a ≠ b → (TJx145de a).2.1 ≠ (TJx145de b).2.1 := by decide +kernel
theorem tyJx145de_ok : ∀ k, k < 0 → parseFieldDescriptor (TJx145de k).2.2.1 = some (tyJx145de k) := by decide +kernel
def RJx9f9b0 : String := "java/lang/CharSequence"
def TJx9f9b0 : u_T := fun k => match k with
  | _ => ("", "", "", false)
def tyJx9f9b0 : Nat → FieldType := fun k => match k with
  | _ => .int
abbrev wsJx9f9b00 : List Cond := u_ws RJx9f9b0 TJx9f9b0 0
theorem nmJx9f9b0 : ∀ a, a < 0 → ∀ b, b < 0 → a ≠ b → (TJx9f9b0 a).2.1 ≠ (TJx9f9b0 b).2.1 := by decide +kernel
theorem tyJx9f9b0_ok : ∀ k, k < 0 → parseFieldDescriptor (TJx9f9b0 k).2.2.1 = some (tyJx9f9b0 k) := by decide +kernel
def RJxb160c : String := "java/lang/Comparable"
def TJxb160c : u_T := fun k => match k with
  | _ => ("", "", "", false)
def tyJxb160c : Nat → FieldType := fun k => match k with
  | _ => .int
abbrev wsJxb160c0 : List Cond := u_ws RJxb160c TJxb160c 0
theorem nmJxb160c : ∀ a, a < 0 → ∀ b, b < 0 → a ≠ b → (TJxb160c a).2.1 ≠ (TJxb160c b).2.1 := by decide +kernel
theorem tyJxb160c_ok : ∀ k, k < 0 → parseFieldDescriptor (TJxb160c k).2.2.1 = some (tyJxb160c k) := by decide +kernel
def RJ9 : String := "java/lang/Math"
def TJ9 : u_T := fun k => match k with
  | _ => ("", "", "", false)
def tyJ9 : Nat → FieldType := fun k => match k with
  | _ => .int
abbrev wsJ90 : List Cond := u_ws RJ9 TJ9 0
theorem nmJ9 : ∀ a, a < 0 → ∀ b, b < 0 → a ≠ b → (TJ9 a).2.1 ≠ (TJ9 b).2.1 := by decide +kernel
theorem tyJ9_ok : ∀ k, k < 0 → parseFieldDescriptor (TJ9 k).2.2.1 = some (tyJ9 k) := by decide +kernel
abbrev cJ9_max_7cf53 : ByteArray := prog_19_method_65_code
def yJ9_max_7cf53 : MethodName := ⟨RJ9, "max", "(II)I"⟩
abbrev cJ9_min_7cf53 : ByteArray := prog_19_method_69_code
def yJ9_min_7cf53 : MethodName := ⟨RJ9, "min", "(II)I"⟩
def RJ0 : String := "java/lang/String"
def TJ0 : u_T := fun k => match k with
  | _ => ("", "", "", false)
def tyJ0 : Nat → FieldType := fun k => match k with
  | _ => .int
abbrev wsJ00 : List Cond := u_ws RJ0 TJ0 0
theorem nmJ0 : ∀ a, a < 0 → ∀ b, b < 0 → a ≠ b → (TJ0 a).2.1 ≠ (TJ0 b).2.1 := by decide +kernel
theorem tyJ0_ok : ∀ k, k < 0 → parseFieldDescriptor (TJ0 k).2.2.1 = some (tyJ0 k) := by decide +kernel
abbrev cJ0_length_8abf5 : ByteArray := prog_21_method_54_code
def yJ0_length_8abf5 : MethodName := ⟨RJ0, "length", "()I"⟩
abbrev cJ0_charAt_5068e : ByteArray := prog_21_method_56_code
def yJ0_charAt_5068e : MethodName := ⟨RJ0, "charAt", "(I)C"⟩
abbrev cJ0_coder_7d493 : ByteArray := prog_21_method_152_code
def yJ0_coder_7d493 : MethodName := ⟨RJ0, "coder", "()B"⟩
abbrev cJ0_isLatin1_aae02 : ByteArray := prog_21_method_154_code
def yJ0_isLatin1_aae02 : MethodName := ⟨RJ0, "isLatin1", "()Z"⟩
abbrev cJ0_checkIndex_df160 : ByteArray := prog_21_method_155_code
def yJ0_checkIndex_df160 : MethodName := ⟨RJ0, "checkIndex", "(II)V"⟩
def RJ1 : String := "java/lang/StringLatin1"
def TJ1 : u_T := fun k => match k with
  | _ => ("", "", "", false)
def tyJ1 : Nat → FieldType := fun k => match k with
  | _ => .int
abbrev wsJ10 : List Cond := u_ws RJ1 TJ1 0
theorem nmJ1 : ∀ a, a < 0 → ∀ b, b < 0 → a ≠ b → (TJ1 a).2.1 ≠ (TJ1 b).2.1 := by decide +kernel
theorem tyJ1_ok : ∀ k, k < 0 → parseFieldDescriptor (TJ1 k).2.2.1 = some (tyJ1 k) := by decide +kernel
abbrev cJ1_charAt_3b067 : ByteArray := prog_22_method_2_code
def yJ1_charAt_3b067 : MethodName := ⟨RJ1, "charAt", "([BI)C"⟩
def RJ2 : String := "java/lang/StringUTF16"
def TJ2 : u_T := fun k => match k with
  | _ => ("", "", "", false)
def tyJ2 : Nat → FieldType := fun k => match k with
  | _ => .int
abbrev wsJ20 : List Cond := u_ws RJ2 TJ2 0
theorem nmJ2 : ∀ a, a < 0 → ∀ b, b < 0 → a ≠ b → (TJ2 a).2.1 ≠ (TJ2 b).2.1 := by decide +kernel
theorem tyJ2_ok : ∀ k, k < 0 → parseFieldDescriptor (TJ2 k).2.2.1 = some (tyJ2 k) := by decide +kernel
abbrev cJ2_getChar_3b067 : ByteArray := prog_23_method_5_code
def yJ2_getChar_3b067 : MethodName := ⟨RJ2, "getChar", "([BI)C"⟩
abbrev cJ2_length_9d52b : ByteArray := prog_23_method_6_code
def yJ2_length_9d52b : MethodName := ⟨RJ2, "length", "([B)I"⟩
abbrev cJ2_charAt_3b067 : ByteArray := prog_23_method_83_code
def yJ2_charAt_3b067 : MethodName := ⟨RJ2, "charAt", "([BI)C"⟩
abbrev cJ2_checkIndex_2214a : ByteArray := prog_23_method_91_code
def yJ2_checkIndex_2214a : MethodName := ⟨RJ2, "checkIndex", "(I[B)V"⟩
def RJ10 : String := "java/lang/System"
def TJ10 : u_T := fun k => match k with
  | _ => ("", "", "", false)
def tyJ10 : Nat → FieldType := fun k => match k with
  | _ => .int
abbrev wsJ100 : List Cond := u_ws RJ10 TJ10 0
theorem nmJ10 : ∀ a, a < 0 → ∀ b, b < 0 → a ≠ b → (TJ10 a).2.1 ≠ (TJ10 b).2.1 := by decide +kernel
theorem tyJ10_ok : ∀ k, k < 0 → parseFieldDescriptor (TJ10 k).2.2.1 = some (tyJ10 k) := by decide +kernel
def RJxfd54e : String := "java/lang/constant/Constable"
def TJxfd54e : u_T := fun k => match k with
  | _ => ("", "", "", false)
def tyJxfd54e : Nat → FieldType := fun k => match k with
  | _ => .int
abbrev wsJxfd54e0 : List Cond := u_ws RJxfd54e TJxfd54e 0
theorem nmJxfd54e : ∀ a, a < 0 → ∀ b, b < 0 → a ≠ b → (TJxfd54e a).2.1 ≠ (TJxfd54e b).2.1 := by decide +kernel
theorem tyJxfd54e_ok : ∀ k, k < 0 → parseFieldDescriptor (TJxfd54e k).2.2.1 = some (tyJxfd54e k) := by decide +kernel
def RJx3cf43 : String := "java/lang/constant/ConstantDesc"
def TJx3cf43 : u_T := fun k => match k with
  | _ => ("", "", "", false)
def tyJx3cf43 : Nat → FieldType := fun k => match k with
  | _ => .int
abbrev wsJx3cf430 : List Cond := u_ws RJx3cf43 TJx3cf43 0
theorem nmJx3cf43 : ∀ a, a < 0 → ∀ b, b < 0 → a ≠ b → (TJx3cf43 a).2.1 ≠ (TJx3cf43 b).2.1 := by decide +kernel
theorem tyJx3cf43_ok : ∀ k, k < 0 → parseFieldDescriptor (TJx3cf43 k).2.2.1 = some (tyJx3cf43 k) := by decide +kernel
def RJ3 : String := "jdk/internal/util/Preconditions"
def TJ3 : u_T := fun k => match k with
  | _ => ("", "", "", false)
def tyJ3 : Nat → FieldType := fun k => match k with
  | _ => .int
abbrev wsJ30 : List Cond := u_ws RJ3 TJ3 0
theorem nmJ3 : ∀ a, a < 0 → ∀ b, b < 0 → a ≠ b → (TJ3 a).2.1 ≠ (TJ3 b).2.1 := by decide +kernel
theorem tyJ3_ok : ∀ k, k < 0 → parseFieldDescriptor (TJ3 k).2.2.1 = some (tyJ3 k) := by decide +kernel
abbrev cJ3_checkIndex_8e157 : ByteArray := prog_29_method_11_code
def yJ3_checkIndex_8e157 : MethodName := ⟨RJ3, "checkIndex", "(IILjava/util/function/BiFunction;)I"⟩
def RL : String := "DominoChainsLaw"
abbrev cL_append : ByteArray := method_3_code
def yL_append : MethodName := ⟨RL, "append", "(LDominoChains;IIIII[J)I"⟩
abbrev cL_truncate : ByteArray := method_4_code
def yL_truncate : MethodName := ⟨RL, "truncate", "(LDominoChains;I)I"⟩
abbrev cL_load : ByteArray := method_5_code
def yL_load : MethodName := ⟨RL, "load", "(LDominoChains;[J)I"⟩
abbrev cL_roundWinner : ByteArray := method_6_code
def yL_roundWinner : MethodName := ⟨RL, "roundWinner", "(LDominoChains;I[J)I"⟩
abbrev cL_roundsWon : ByteArray := method_7_code
def yL_roundsWon : MethodName := ⟨RL, "roundsWon", "(LDominoChains;I[J)I"⟩
abbrev cL_roundScore : ByteArray := method_8_code
def yL_roundScore : MethodName := ⟨RL, "roundScore", "(LDominoChains;II[J)I"⟩
abbrev cL_totalScore : ByteArray := method_9_code
def yL_totalScore : MethodName := ⟨RL, "totalScore", "(LDominoChains;I[J)I"⟩
abbrev cL_tilesBurnt : ByteArray := method_10_code
def yL_tilesBurnt : MethodName := ⟨RL, "tilesBurnt", "(LDominoChains;I[J)I"⟩
abbrev cL_passes : ByteArray := method_11_code
def yL_passes : MethodName := ⟨RL, "passes", "(LDominoChains;I[J)I"⟩
abbrev cL_meanTileScore : ByteArray := method_12_code
def yL_meanTileScore : MethodName := ⟨RL, "meanTileScore", "(LDominoChains;I[D)I"⟩
abbrev cL_chainLength : ByteArray := method_13_code
def yL_chainLength : MethodName := ⟨RL, "chainLength", "(LDominoChains;I[J)I"⟩
abbrev cL_leftPips : ByteArray := method_14_code
def yL_leftPips : MethodName := ⟨RL, "leftPips", "(LDominoChains;II[J)I"⟩
abbrev cL_rightPips : ByteArray := method_15_code
def yL_rightPips : MethodName := ⟨RL, "rightPips", "(LDominoChains;II[J)I"⟩
abbrev cL_tileScore : ByteArray := method_16_code
def yL_tileScore : MethodName := ⟨RL, "tileScore", "(LDominoChains;II[J)I"⟩
abbrev cL_chainScore : ByteArray := method_17_code
def yL_chainScore : MethodName := ⟨RL, "chainScore", "(LDominoChains;I[J)I"⟩
abbrev cL_tilesWith : ByteArray := method_18_code
def yL_tilesWith : MethodName := ⟨RL, "tilesWith", "(LDominoChains;I[J)I"⟩
abbrev cL_isPass : ByteArray := method_19_code
def yL_isPass : MethodName := ⟨RL, "isPass", "(LDominoChains;I[J)I"⟩
abbrev cL_moveChain : ByteArray := method_20_code
def yL_moveChain : MethodName := ⟨RL, "moveChain", "(LDominoChains;I[J)I"⟩
abbrev cL_isLeftBurn : ByteArray := method_21_code
def yL_isLeftBurn : MethodName := ⟨RL, "isLeftBurn", "(LDominoChains;I[J)I"⟩
abbrev cL_moveScore : ByteArray := method_22_code
def yL_moveScore : MethodName := ⟨RL, "moveScore", "(LDominoChains;I[J)I"⟩
abbrev cL_loggedScore : ByteArray := method_23_code
def yL_loggedScore : MethodName := ⟨RL, "loggedScore", "(LDominoChains;I[J)I"⟩
abbrev cL_loggedChain : ByteArray := method_24_code
def yL_loggedChain : MethodName := ⟨RL, "loggedChain", "(LDominoChains;I[J)I"⟩
abbrev cL_greatestPossibleScore : ByteArray := method_25_code
def yL_greatestPossibleScore : MethodName := ⟨RL, "greatestPossibleScore", "(LDominoChains;I[J)I"⟩
abbrev cL_canStillWin : ByteArray := method_26_code
def yL_canStillWin : MethodName := ⟨RL, "canStillWin", "(LDominoChains;I[J)I"⟩
abbrev cL_moveValue : ByteArray := method_27_code
def yL_moveValue : MethodName := ⟨RL, "moveValue", "(LDominoChains;I[J)I"⟩
abbrev cL_optimalMove : ByteArray := method_28_code
def yL_optimalMove : MethodName := ⟨RL, "optimalMove", "(LDominoChains;[J)I"⟩
abbrev cL_worstMove : ByteArray := method_29_code
def yL_worstMove : MethodName := ⟨RL, "worstMove", "(LDominoChains;[J)I"⟩
abbrev cL_optimalLineScore : ByteArray := method_30_code
def yL_optimalLineScore : MethodName := ⟨RL, "optimalLineScore", "(LDominoChains;I[J)I"⟩
abbrev cL_chainDifference : ByteArray := method_31_code
def yL_chainDifference : MethodName := ⟨RL, "chainDifference", "(LDominoChains;I[J)I"⟩
abbrev cL_greedyMove : ByteArray := method_32_code
def yL_greedyMove : MethodName := ⟨RL, "greedyMove", "(LDominoChains;[J)I"⟩
abbrev cL_burn : ByteArray := method_33_code
def yL_burn : MethodName := ⟨RL, "burn", "(LDominoChains;IZ[J)I"⟩
abbrev cL_pass : ByteArray := method_34_code
def yL_pass : MethodName := ⟨RL, "pass", "(LDominoChains;[J)I"⟩
abbrev cL_playOptimally : ByteArray := method_35_code
def yL_playOptimally : MethodName := ⟨RL, "playOptimally", "(LDominoChains;I[J)I"⟩
abbrev cL_startNextRound : ByteArray := method_36_code
def yL_startNextRound : MethodName := ⟨RL, "startNextRound", "(LDominoChains;[J)I"⟩
abbrev cL_undo : ByteArray := method_37_code
def yL_undo : MethodName := ⟨RL, "undo", "(LDominoChains;[J)I"⟩
abbrev cL_restore : ByteArray := method_38_code
def yL_restore : MethodName := ⟨RL, "restore", "(LDominoChains;[J)I"⟩
abbrev cL_formatChain : ByteArray := method_39_code
def yL_formatChain : MethodName := ⟨RL, "formatChain", "(LDominoChains;I[J)I"⟩
abbrev cL_formattedCharacter : ByteArray := method_40_code
def yL_formattedCharacter : MethodName := ⟨RL, "formattedCharacter", "(LDominoChains;I[J)I"⟩
abbrev cL_law : ByteArray := code
def yL_law : MethodName := ⟨RL, "law", "([I)Z"⟩
abbrev vwCl : List vw_C := [(RX0, TX0, 3), (RX1, TX1, 6), (RX2, TX2, 2), (RX3, TX3, 6), (RX4, TX4, 5), (RX5, TX5, 13), (RX6, TX6, 13), (RX7, TX7, 2), (RX8, TX8, 12), (RX9, TX9, 17)]
end
section
section JL
/-- a method: its name, code, number of locals, return type -/
abbrev jMI : Type := MethodName × ByteArray × Nat × Option FieldType
/-- a memory: the cells' kinds and lengths; references, ints, longs, doubles by cell and place -/
abbrev jM : Type := List (Nat × Nat) × (Nat → Nat → Option Nat) × (Nat → Nat → Int32) × (Nat → Nat → Int64) × (Nat → Nat → UInt64)
/-- what a walk is relative to: the launch, the classes' numbers and slots, the script of the law (its number is 2000000) -/
abbrev jE : Type := Launch × va_G × Option (Nat × (Nat → Int32))
def jG : List Cond := lw_tbl.filter goodWord
theorem jG_mem {w : Cond} (i : Nat) (h : lw_tbl[i]? = some w) (hg : goodWord w = true) : w ∈ jG := List.mem_filter.mpr ⟨List.mem_of_getElem? h, hg⟩
theorem jG_good {w : Cond} (h : w ∈ jG) : (w.onTables && w.keeps) = true ∨ ∃ ty, w = .arrayClass ty := good_of_word (List.mem_filter.mp h).2
def jre (ρ : Nat → Nat) : Value → Value
  | .ref k => .ref (ρ k)
  | v => v
def jok (n : Nat) : Value → Prop
  | .ref k => k < n ∨ 1000000 ≤ k
  | _ => True
theorem jre_cat (ρ : Nat → Nat) (v : Value) : (jre ρ v).category = v.category := by cases v <;> rfl
theorem jre_ext {ρ ρ' : Nat → Nat} {n : Nat} {v : Value} (h : ∀ k, k < n ∨ 1000000 ≤ k → ρ' k = ρ k) (hv : jok n v) : jre ρ' v = jre ρ v := by
  cases v <;> first | rfl | (show Value.ref _ = Value.ref _; rw [h _ hv])
theorem jok_mono {n n' : Nat} {v : Value} (h : n ≤ n') (hv : jok n v) : jok n' v := by
  cases v <;> first | trivial | exact hv.imp (fun q => Nat.lt_of_lt_of_le q h) id
def jty : Nat → FieldType
  | 100 => .int
  | 101 => .byte
  | 102 => .char
  | 103 => .long
  | 104 => .double
  | _ => .object "DominoChains$State"
/-- whether a field holds a reference -/
def jrf (ci k : Nat) : Bool := match (vwCl.getD ci (RX0, TX0, 3)).2.1 k with
  | (_, _, d, _) => d ≠ "I" && d ≠ "Z"
def jfv (ρ : Nat → Nat) (M : jM) (q ci k : Nat) : Value := if jrf ci k = true then va_rf ((M.2.1 q k).map ρ) else .int (M.2.2.1 q k)
def jcell (ρ : Nat → Nat) (κ : Nat → ClassId) (M : jM) (q : Nat) (z : Nat × Nat) : va_E :=
  if z.1 < 100 then .inr (z.1, (List.range z.2).map (jfv ρ M q z.1)) else .inl (κ q, z.2,
    if z.1 = 103 then .inr (.inl (M.2.2.2.1 q)) else if z.1 = 104 then .inr (.inr (.inr (.inl (M.2.2.2.2 q)))) else if z.1 = 105 then .inr (.inr (.inr (.inr (fun i => (M.2.1 q i).map ρ)))) else .inl (M.2.2.1 q))
def jw (ρ : Nat → Nat) (κ : Nat → ClassId) (M : jM) : va_W := M.1.mapIdx fun q z => (ρ q, jcell ρ κ M q z)
theorem jw_at {ρ : Nat → Nat} {κ : Nat → ClassId} {M : jM} {q : Nat} {z : Nat × Nat} (h : M.1[q]? = some z) : (jw ρ κ M)[q]? = some (ρ q, jcell ρ κ M q z) := by
  unfold jw; rw [List.getElem?_mapIdx, h]; rfl
theorem jw_set {ρ : Nat → Nat} {κ : Nat → ClassId} {M M' : jM} {q : Nat} {z : Nat × Nat} (h : M.1[q]? = some z) (hs : M'.1 = M.1)
    (hr : ∀ k z', k ≠ q → M.1[k]? = some z' → jcell ρ κ M' k z' = jcell ρ κ M k z') : (jw ρ κ M).set q (ρ q, jcell ρ κ M' q z) = jw ρ κ M' := by
  apply List.ext_getElem?
  intro k
  unfold jw
  rw [List.getElem?_set, List.getElem?_mapIdx, List.getElem?_mapIdx, hs]
  by_cases hk : q = k
  · subst hk
    obtain ⟨hl, he⟩ := List.getElem?_eq_some_iff.mp h
    simp [hl, he]
  · rw [if_neg hk]
    cases hm : M.1[k]? with
    | none => rfl
    | some z' => simp only [Option.map_some]; rw [hr k z' (fun e => hk e.symm) hm]
def jup2 {α : Type} (f : Nat → Nat → α) (q i : Nat) (v : α) : Nat → Nat → α := fun a b => if a = q ∧ b = i then v else f a b
/-- the links of nest mates -/
def jNst (U : State) : Prop := (∀ own i y h, Cond.methodLinkNest own i y h ∈ lw_tbl → va_Nw (.methodLinkNest own i y h) U) ∧ (∀ C T, Cond.castable C T ∈ lw_tbl → va_Nw (.castable C T) U) ∧ va_AO "DominoChains$State" U ∧ va_Nc "java/lang/IllegalStateException" "java/lang/IndexOutOfBoundsException" U
/-- the String constants: class, entry, text -/
def jStr : List (String × Nat × String) := [("DominoChains", 73, "the input buffer is full"), ("DominoChains", 88, "no such length"), ("DominoChains", 101, "the text has an error"), ("DominoChains", 203, "no such pip value"), ("DominoChains", 261, "the round is over"), ("DominoChains", 275, "no such move in the line"), ("DominoChains", 296, "nothing can be burnt there"), ("DominoChains", 306, "no such number of moves"), ("DominoChains", 308, "no round can be started"), ("DominoChains", 316, "there is no edit to undo"), ("DominoChains", 323, "there is no saved state"), ("DominoChains", 335, "no such character"), ("DominoChains", 340, "no such player"), ("DominoChains", 342, "no such round"), ("DominoChains", 344, "no such chain"), ("DominoChains", 346, "no such tile"), ("DominoChains", 348, "no such move in the log"), ("DominoChains", 350, "no such move"), ("DominoChains$Parser", 49, "round"), ("DominoChains$Parser", 116, "left"), ("DominoChains$Parser", 122, "right"), ("DominoChains$Parser", 124, "pass"), ("DominoChains$Parser", 129, "next")]
def jStrNo (t : String) : Option Nat := if t = "round" then some 0 else if t = "left" then some 1 else if t = "right" then some 2 else if t = "pass" then some 3 else if t = "next" then some 4 else none
/-- what lies outside of the world: the two statics that a throw reads, the Strings, the law's script -/
def jLen : List Nat := [5, 4, 5, 4, 4]
def jByt : List (List Int32) := [[114, 111, 117, 110, 100], [108, 101, 102, 116], [114, 105, 103, 104, 116], [112, 97, 115, 115], [110, 101, 120, 116]]
def jX1 (A : Nat → Prop) (ρ : Nat → Nat) (U : State) (H : Heap) : Prop := va_Z "java/lang/String" "COMPACT_STRINGS" "Z" (.int 1) A U H ∧ va_Zq "jdk/internal/util/Preconditions" "SIOOBE_FORMATTER" "Ljava/util/function/BiFunction;" A U H ∧ ∃ adV, vk_S 5 jLen jByt (fun i => ρ (1000000 + i)) adV A U H
theorem jX1.moved {A : Nat → Prop} {ρ : Nat → Nat} {u U : State} {H : Heap} (hv : u.vm.Alike U.vm) (h : jX1 A ρ u H) : jX1 A ρ U H := ⟨h.1.moved hv, h.2.1.moved hv, h.2.2.imp fun _ z => z.moved hv⟩
theorem jX1.kept {A : Nat → Prop} {ρ : Nat → Nat} {U : State} {H H1 : Heap} (h : jX1 A ρ U H) (hq : ∀ a : Nat, a < H.size → ¬ A a → H1[a]? = H[a]?) : jX1 A ρ U H1 := ⟨h.1.kept hq, h.2.1.kept hq, h.2.2.imp fun _ z => z.kept hq⟩
theorem jX1.narrow {A B : Nat → Prop} {ρ : Nat → Nat} {U : State} {H : Heap} (h : jX1 A ρ U H) (hAB : ∀ q, B q → A q) : jX1 B ρ U H := ⟨h.1.narrow hAB, h.2.1.narrow hAB, h.2.2.imp fun _ z => z.narrow hAB⟩
def jX0 (Γ : jE) (A : Nat → Prop) (ρ : Nat → Nat) (U : State) (H : Heap) : Prop :=
  vx_Zq Bundle.tN "UNASSIGNED_STACK" Bundle.steD A U H ∧ vx_Zq Bundle.tN "SUPPRESSED_SENTINEL" Bundle.listD A U H ∧
  (∀ L xs, Γ.2.2 = some (L, xs) → va_X (ρ 2000000) L xs U H ∧ ρ 2000000 < H.size ∧ ¬ A (ρ 2000000)) ∧ jX1 A ρ U H
def jC (Γ : jE) (d : Nat) (mi : jMI) (p : Program) (R : Room) (s : State) (m : MethodId) (args : Array Value) (meth : Method) (c : Code) (A : Nat → Prop) (ρ0 : Nat → Nat) : Prop :=
  p.tables.exec = Jvm.exec ∧ c.code = mi.2.1 ∧ c.maxLocals = mi.2.2.1 ∧ meth.sig.returnType = mi.2.2.2 ∧ meth.locks = false ∧ s.vm.findClass mi.1.cls = some m.cls ∧ (∀ w ∈ jG, w.before args s = true) ∧
  d + 16 ≤ R.frames ∧ 40 * d + 400 ≤ R.locals ∧ va_K Γ.2.1 vwCl [] s ∧ (∀ q, s.heap.size ≤ q → A q) ∧ Γ.1.stackTraces = false ∧ jX0 Γ A ρ0 s s.heap ∧ (mi.1.name = "<init>" → meth.name = "<init>") ∧ jNst s ∧ ∀ t ∈ jStr, ∃ a, vk_R t.1 t.2.1 t.2.2 a s ∧ (∀ i, jStrNo t.2.2 = some i → ρ0 (1000000 + i) = a)
def jW (Γ : jE) (s : State) (A : Nat → Prop) (n0 : Nat) (ρ0 : Nat → Nat) (M : jM) (ρ : Nat → Nat) (κ : Nat → ClassId) (H : Heap) (locs : List Loc) : Prop :=
  va_P Γ.2.1 vwCl (jw ρ κ M) H ∧ va_D A (jw ρ κ M) ∧ va_S A s.heap H locs ∧ (∀ q z, M.1[q]? = some z → 100 ≤ z.1 → va_K Γ.2.1 vwCl [(κ q, jty z.1)] s) ∧ (∀ q i r, M.2.1 q i = some r → r < M.1.length) ∧
  n0 ≤ M.1.length ∧ ∀ k, k < n0 ∨ 1000000 ≤ k → ρ k = ρ0 k
/-- the locals: those that are known -/
def jL (ρ : Nat → Nat) (n nL : Nat) (L : List (Option Value)) (ls : Array Slot) : Prop :=
  lv_wf ls ∧ ls.size = nL ∧ L.length = nL ∧ ∀ (i : Nat) (v : Value), L[i]? = some (some v) → ls[i]? = some (.val (jre ρ v)) ∧ jok n v
/-- a return -/
def jR (mi : jMI) (pc : Nat) (v : Option Value) : Prop :=
  (mi.2.2.2 = none ∧ v = none ∧ decode mi.2.1 pc = .ok (.return_, 1)) ∨
  (∃ ty x, mi.2.2.2 = some ty ∧ v = some (.int x) ∧ narrow ty (.int x) = .int x ∧ decode mi.2.1 pc = .ok (.ireturn, 1)) ∨
  (∃ x, mi.2.2.2 = some .double ∧ v = some (.double x) ∧ decode mi.2.1 pc = .ok (.dreturn, 1)) ∨
  (∃ ty w, mi.2.2.2 = some (.object ty) ∧ v = some w ∧ (w = .null ∨ ∃ k, w = .ref k) ∧ decode mi.2.1 pc = .ok (.areturn, 1))
/-- a throw of an exception made here: its places in the code -/
def jT (mi : jMI) (pc : Nat) (E text : String) (names : List String) (ik is ic : Nat) (m : MethodId) (args : Array Value) (s : State) : Prop :=
  Bundle.fit E = true ∧ (∀ n ∈ names, Bundle.fit n = true) ∧ names.length ≤ 2 ∧ (Cond.classLink mi.1.cls ik E).before args s = true ∧ (Cond.initialized E).before args s = true ∧ (∃ sa, vk_R mi.1.cls is text sa s) ∧
  (∀ w ∈ vx_atS mi.1.cls ic E names, w.before args s = true) ∧ (∀ w ∈ Cond.classLink mi.1.cls ik E :: Cond.initialized E :: vx_atS mi.1.cls ic E names, vx_ot w = true)
def jF (Γ : jE) (mi : jMI) (p : Program) (e : Env) (R : Room) (s : State) (m : MethodId) (args : Array Value) (below : List Frame) (meth : Method) (c : Code) (A : Nat → Prop) (n0 : Nat) (ρ0 : Nat → Nat) (Q : State → Prop) (P : Option Value → jM → Prop) (X : String → jM → Prop) : Prop :=
  (∀ (M : jM) (ρ : Nat → Nat) (κ : Nat → ClassId) (ls : Array Slot) (H : Heap) (locs : List Loc) (cells slots pc : Nat) (v : Option Value), P v M → jW Γ s A n0 ρ0 M ρ κ H locs → (∀ w, v = some w → jok M.1.length w) → cells ≤ R.cells → slots ≤ R.slots → jR mi pc v →
    W p Γ.1 e R s m args below meth c H locs cells slots Q (F0 m pc ls (v.toList.map (jre ρ)))) ∧
  (∀ (M : jM) (ρ : Nat → Nat) (κ : Nat → ClassId) (ls : Array Slot) (H : Heap) (locs : List Loc) (cells slots pc : Nat) (st : List Value) (E : String) (q : Addr) (ce : Cell), X E M → jW Γ s A n0 ρ0 M ρ κ H locs → cells ≤ R.cells → slots ≤ R.slots →
    H[q]? = some ce → ce.vm = .none → s.vm.findClass E = some ce.cls → vx_W p Γ.1 e R s m args below meth c H locs cells slots Q (F0 m pc ls st) q) ∧
  (∀ (M : jM) (ρ : Nat → Nat) (κ : Nat → ClassId) (ls : Array Slot) (H : Heap) (locs : List Loc) (cells slots pc : Nat) (st : List Value) (E text : String) (names : List String) (ik is ic : Nat), X E M → jW Γ s A n0 ρ0 M ρ κ H locs → cells + 1 ≤ R.cells → slots + 6 ≤ R.slots →
    ls.size = mi.2.2.1 → (st.map fun v => v.category).sum ≤ 8 → jT mi pc E text names ik is ic m args s →
    ((decode mi.2.1 pc = .ok (.new ik, 3) ∧ decode mi.2.1 (pc + 3) = .ok (.dup, 1) ∧ decode mi.2.1 (pc + 4) = .ok (.ldc is, 2) ∧ decode mi.2.1 (pc + 6) = .ok (.invokespecial ic, 3) ∧ decode mi.2.1 (pc + 9) = .ok (.athrow, 1)) ∨
     (decode mi.2.1 pc = .ok (.new ik, 3) ∧ decode mi.2.1 (pc + 3) = .ok (.dup, 1) ∧ decode mi.2.1 (pc + 4) = .ok (.ldc_w is, 3) ∧ decode mi.2.1 (pc + 7) = .ok (.invokespecial ic, 3) ∧ decode mi.2.1 (pc + 10) = .ok (.athrow, 1))) →
    W p Γ.1 e R s m args below meth c H locs cells slots Q (F0 m pc ls st))
/-- the judgement: from this point of the method on, with the room for bc cells of bs slots, the method returns with P or throws with X -/
def J (Γ : jE) (b : Nat × Nat × Nat) (mi : jMI) (pc : Nat) (L : List (Option Value)) (S : List Value) (M : jM) (P : Option Value → jM → Prop) (X : String → jM → Prop) : Prop :=
  ∀ (p : Program) (e : Env) (R : Room) (s : State) (m : MethodId) (args : Array Value) (below : List Frame) (meth : Method) (c : Code) (A : Nat → Prop) (n0 : Nat) (ρ0 : Nat → Nat) (Q : State → Prop),
    jC Γ b.1 mi p R s m args meth c A ρ0 → jF Γ mi p e R s m args below meth c A n0 ρ0 Q P X →
    ∀ (ρ : Nat → Nat) (κ : Nat → ClassId) (ls : Array Slot) (H : Heap) (locs : List Loc) (cells slots : Nat),
      jW Γ s A n0 ρ0 M ρ κ H locs → jL ρ M.1.length mi.2.2.1 L ls → (∀ v ∈ S, jok M.1.length v) → cells + b.2.1 ≤ R.cells → slots + b.2.2 ≤ R.slots →
      W p Γ.1 e R s m args below meth c H locs cells slots Q (F0 m pc ls (S.map (jre ρ)))
variable {Γ : jE} {b : Nat × Nat × Nat} {mi : jMI} {pc : Nat} {L : List (Option Value)} {S : List Value} {M : jM} {P : Option Value → jM → Prop} {X : String → jM → Prop}

/-- a stack of ints over what was there -/
theorem jS_int {n : Nat} {S : List Value} {x : Int32} (h : ∀ v ∈ S, jok n v) : ∀ v ∈ Value.int x :: S, jok n v := List.forall_mem_cons.mpr ⟨trivial, h⟩
theorem jS_c {n : Nat} {S : List Value} {v : Value} (hv : jok n v) (h : ∀ v ∈ S, jok n v) : ∀ w ∈ v :: S, jok n w := List.forall_mem_cons.mpr ⟨hv, h⟩
theorem jS_tl {n : Nat} {S : List Value} {x : Value} (h : ∀ v ∈ x :: S, jok n v) : ∀ v ∈ S, jok n v := fun v hv => h v (List.mem_cons_of_mem _ hv)
theorem jS_hd {n : Nat} {S : List Value} {x : Value} (h : ∀ v ∈ x :: S, jok n v) : jok n x := h _ List.mem_cons_self

theorem J.iadd {x y : Int32} (d : decode mi.2.1 pc = .ok (.iadd, 1)) (k : J Γ b mi (pc + 1) L (.int (x + y) :: S) M P X) : J Γ b mi pc L (.int y :: .int x :: S) M P X := by
  intro p e R s m args below meth c A n0 ρ0 Q C F ρ κ ls H locs cells slots hW hL hS h1 h2
  exact lv_iadd C.1 C.2.1 d (k p e R s m args below meth c A n0 ρ0 Q C F ρ κ ls H locs cells slots hW hL (jS_c (v := .int (x + y)) trivial (jS_tl (jS_tl hS))) h1 h2)

theorem J.isub {x y : Int32} (d : decode mi.2.1 pc = .ok (.isub, 1)) (k : J Γ b mi (pc + 1) L (.int (x - y) :: S) M P X) : J Γ b mi pc L (.int y :: .int x :: S) M P X := by
  intro p e R s m args below meth c A n0 ρ0 Q C F ρ κ ls H locs cells slots hW hL hS h1 h2
  exact lv_isub C.1 C.2.1 d (k p e R s m args below meth c A n0 ρ0 Q C F ρ κ ls H locs cells slots hW hL (jS_c (v := .int (x - y)) trivial (jS_tl (jS_tl hS))) h1 h2)

theorem J.imul {x y : Int32} (d : decode mi.2.1 pc = .ok (.imul, 1)) (k : J Γ b mi (pc + 1) L (.int (x * y) :: S) M P X) : J Γ b mi pc L (.int y :: .int x :: S) M P X := by
  intro p e R s m args below meth c A n0 ρ0 Q C F ρ κ ls H locs cells slots hW hL hS h1 h2
  exact lv_imul C.1 C.2.1 d (k p e R s m args below meth c A n0 ρ0 Q C F ρ κ ls H locs cells slots hW hL (jS_c (v := .int (x * y)) trivial (jS_tl (jS_tl hS))) h1 h2)

theorem J.iand {x y : Int32} (d : decode mi.2.1 pc = .ok (.iand, 1)) (k : J Γ b mi (pc + 1) L (.int (x &&& y) :: S) M P X) : J Γ b mi pc L (.int y :: .int x :: S) M P X := by
  intro p e R s m args below meth c A n0 ρ0 Q C F ρ κ ls H locs cells slots hW hL hS h1 h2
  exact lv_iand C.1 C.2.1 d (k p e R s m args below meth c A n0 ρ0 Q C F ρ κ ls H locs cells slots hW hL (jS_c (v := .int (x &&& y)) trivial (jS_tl (jS_tl hS))) h1 h2)

theorem J.ishr {x y : Int32} (d : decode mi.2.1 pc = .ok (.ishr, 1)) (k : J Γ b mi (pc + 1) L (.int (x >>> (y &&& 31)) :: S) M P X) : J Γ b mi pc L (.int y :: .int x :: S) M P X := by
  intro p e R s m args below meth c A n0 ρ0 Q C F ρ κ ls H locs cells slots hW hL hS h1 h2
  exact lv_ishr C.1 C.2.1 d (k p e R s m args below meth c A n0 ρ0 Q C F ρ κ ls H locs cells slots hW hL (jS_c (v := .int (x >>> (y &&& 31))) trivial (jS_tl (jS_tl hS))) h1 h2)

theorem J.idiv {x y : Int32} (d : decode mi.2.1 pc = .ok (.idiv, 1)) (hne : ¬ y = 0) (k : J Γ b mi (pc + 1) L (.int (x / y) :: S) M P X) : J Γ b mi pc L (.int y :: .int x :: S) M P X := by
  intro p e R s m args below meth c A n0 ρ0 Q C F ρ κ ls H locs cells slots hW hL hS h1 h2
  exact lv_idiv C.1 C.2.1 d hne (k p e R s m args below meth c A n0 ρ0 Q C F ρ κ ls H locs cells slots hW hL (jS_c (v := .int (x / y)) trivial (jS_tl (jS_tl hS))) h1 h2)

theorem J.irem {x y : Int32} (d : decode mi.2.1 pc = .ok (.irem, 1)) (hne : ¬ y = 0) (k : J Γ b mi (pc + 1) L (.int (x - x / y * y) :: S) M P X) : J Γ b mi pc L (.int y :: .int x :: S) M P X := by
  intro p e R s m args below meth c A n0 ρ0 Q C F ρ κ ls H locs cells slots hW hL hS h1 h2
  exact lv_irem C.1 C.2.1 d hne (k p e R s m args below meth c A n0 ρ0 Q C F ρ κ ls H locs cells slots hW hL (jS_c (v := .int (x - x / y * y)) trivial (jS_tl (jS_tl hS))) h1 h2)

theorem J.iushr {x y : Int32} (d : decode mi.2.1 pc = .ok (.iushr, 1)) (k : J Γ b mi (pc + 1) L (.int (x.toUInt32 >>> (y.toUInt32 &&& Int32.toUInt32 31)).toInt32 :: S) M P X) : J Γ b mi pc L (.int y :: .int x :: S) M P X := by
  intro p e R s m args below meth c A n0 ρ0 Q C F ρ κ ls H locs cells slots hW hL hS h1 h2
  exact lv_iushr C.1 C.2.1 d rfl (k p e R s m args below meth c A n0 ρ0 Q C F ρ κ ls H locs cells slots hW hL (jS_c (v := .int (x.toUInt32 >>> (y.toUInt32 &&& Int32.toUInt32 31)).toInt32) trivial (jS_tl (jS_tl hS))) h1 h2)

theorem J.ineg {x : Int32} (d : decode mi.2.1 pc = .ok (.ineg, 1)) (k : J Γ b mi (pc + 1) L (.int (-x) :: S) M P X) : J Γ b mi pc L (.int x :: S) M P X := by
  intro p e R s m args below meth c A n0 ρ0 Q C F ρ κ ls H locs cells slots hW hL hS h1 h2
  exact lv_ineg C.1 C.2.1 d (k p e R s m args below meth c A n0 ρ0 Q C F ρ κ ls H locs cells slots hW hL (jS_c (v := .int (-x)) trivial (jS_tl hS)) h1 h2)

theorem J.i2b {x : Int32} (d : decode mi.2.1 pc = .ok (.i2b, 1)) (k : J Γ b mi (pc + 1) L (.int x.toInt8.toInt32 :: S) M P X) : J Γ b mi pc L (.int x :: S) M P X := by
  intro p e R s m args below meth c A n0 ρ0 Q C F ρ κ ls H locs cells slots hW hL hS h1 h2
  exact lv_i2b C.1 C.2.1 d rfl (k p e R s m args below meth c A n0 ρ0 Q C F ρ κ ls H locs cells slots hW hL (jS_c (v := .int x.toInt8.toInt32) trivial (jS_tl hS)) h1 h2)

theorem J.i2c {x : Int32} (d : decode mi.2.1 pc = .ok (.i2c, 1)) (k : J Γ b mi (pc + 1) L (.int (x.toUInt32 % 65536).toInt32 :: S) M P X) : J Γ b mi pc L (.int x :: S) M P X := by
  intro p e R s m args below meth c A n0 ρ0 Q C F ρ κ ls H locs cells slots hW hL hS h1 h2
  exact lv_i2c C.1 C.2.1 d rfl (k p e R s m args below meth c A n0 ρ0 Q C F ρ κ ls H locs cells slots hW hL (jS_c (v := .int (x.toUInt32 % 65536).toInt32) trivial (jS_tl hS)) h1 h2)

theorem J.i2l {x : Int32} (d : decode mi.2.1 pc = .ok (.i2l, 1)) (k : J Γ b mi (pc + 1) L (.long x.toInt64 :: S) M P X) : J Γ b mi pc L (.int x :: S) M P X := by
  intro p e R s m args below meth c A n0 ρ0 Q C F ρ κ ls H locs cells slots hW hL hS h1 h2
  exact lv_i2l C.1 C.2.1 d rfl (k p e R s m args below meth c A n0 ρ0 Q C F ρ κ ls H locs cells slots hW hL (jS_c (v := .long x.toInt64) trivial (jS_tl hS)) h1 h2)

theorem J.i2d {x : Int32} (d : decode mi.2.1 pc = .ok (.i2d, 1)) (k : J Γ b mi (pc + 1) L (.double (FP.i2d x) :: S) M P X) : J Γ b mi pc L (.int x :: S) M P X := by
  intro p e R s m args below meth c A n0 ρ0 Q C F ρ κ ls H locs cells slots hW hL hS h1 h2
  exact lv_i2d C.1 C.2.1 d (k p e R s m args below meth c A n0 ρ0 Q C F ρ κ ls H locs cells slots hW hL (jS_c (v := .double (FP.i2d x)) trivial (jS_tl hS)) h1 h2)

theorem J.lcmp {x y : Int64} (d : decode mi.2.1 pc = .ok (.lcmp, 1)) (k : J Γ b mi (pc + 1) L (.int (lg_cmp x y) :: S) M P X) : J Γ b mi pc L (.long y :: .long x :: S) M P X := by
  intro p e R s m args below meth c A n0 ρ0 Q C F ρ κ ls H locs cells slots hW hL hS h1 h2
  exact W.lcmp C.1 C.2.1 d (k p e R s m args below meth c A n0 ρ0 Q C F ρ κ ls H locs cells slots hW hL (jS_c (v := .int (lg_cmp x y)) trivial (jS_tl (jS_tl hS))) h1 h2)

theorem J.dcmp {x y : UInt64} {op : CmpOp} (d : decode mi.2.1 pc = .ok (.dcmp op, 1)) (k : J Γ b mi (pc + 1) L (.int (Op.cmpValue (FP.dcmp x y) op) :: S) M P X) : J Γ b mi pc L (.double y :: .double x :: S) M P X := by
  intro p e R s m args below meth c A n0 ρ0 Q C F ρ κ ls H locs cells slots hW hL hS h1 h2
  exact lv_dcmp C.1 C.2.1 d (k p e R s m args below meth c A n0 ρ0 Q C F ρ κ ls H locs cells slots hW hL (jS_c (v := .int (Op.cmpValue (FP.dcmp x y) op)) trivial (jS_tl (jS_tl hS))) h1 h2)

theorem J.ddiv {x y : UInt64} (d : decode mi.2.1 pc = .ok (.ddiv, 1)) (hne : vf_n64 (FP.ddiv x y)) (k : J Γ b mi (pc + 1) L (.double (FP.ddiv x y) :: S) M P X) : J Γ b mi pc L (.double y :: .double x :: S) M P X := by
  intro p e R s m args below meth c A n0 ρ0 Q C F ρ κ ls H locs cells slots hW hL hS h1 h2
  exact lv_ddiv C.1 C.2.1 d hne (k p e R s m args below meth c A n0 ρ0 Q C F ρ κ ls H locs cells slots hW hL (jS_c (v := .double (FP.ddiv x y)) trivial (jS_tl (jS_tl hS))) h1 h2)

theorem J.iconst {n : Int} (v : Int32) (d : decode mi.2.1 pc = .ok (.iconst n, 1)) (hv : Int32.ofInt n = v) (k : J Γ b mi (pc + 1) L (.int v :: S) M P X) : J Γ b mi pc L (S) M P X := by
  intro p e R s m args below meth c A n0 ρ0 Q C F ρ κ ls H locs cells slots hW hL hS h1 h2
  exact lv_iconst C.1 C.2.1 d hv (k p e R s m args below meth c A n0 ρ0 Q C F ρ κ ls H locs cells slots hW hL (jS_c (v := .int v) trivial hS) h1 h2)

theorem J.bipush {n : Int} (v : Int32) (d : decode mi.2.1 pc = .ok (.bipush n, 2)) (hv : (Int8.ofInt n).toInt32 = v) (k : J Γ b mi (pc + 2) L (.int v :: S) M P X) : J Γ b mi pc L (S) M P X := by
  intro p e R s m args below meth c A n0 ρ0 Q C F ρ κ ls H locs cells slots hW hL hS h1 h2
  exact lv_bipush C.1 C.2.1 d hv (k p e R s m args below meth c A n0 ρ0 Q C F ρ κ ls H locs cells slots hW hL (jS_c (v := .int v) trivial hS) h1 h2)

theorem J.sipush {n : Int} (v : Int32) (d : decode mi.2.1 pc = .ok (.sipush n, 3)) (hv : (Int16.ofInt n).toInt32 = v) (k : J Γ b mi (pc + 3) L (.int v :: S) M P X) : J Γ b mi pc L (S) M P X := by
  intro p e R s m args below meth c A n0 ρ0 Q C F ρ κ ls H locs cells slots hW hL hS h1 h2
  exact lv_sipush C.1 C.2.1 d hv (k p e R s m args below meth c A n0 ρ0 Q C F ρ κ ls H locs cells slots hW hL (jS_c (v := .int v) trivial hS) h1 h2)

theorem J.lconst {n : Fin 2} (v : Int64) (d : decode mi.2.1 pc = .ok (.lconst n, 1)) (hv : Int64.ofNat (n : Nat) = v) (k : J Γ b mi (pc + 1) L (.long v :: S) M P X) : J Γ b mi pc L (S) M P X := by
  intro p e R s m args below meth c A n0 ρ0 Q C F ρ κ ls H locs cells slots hW hL hS h1 h2
  exact lv_lconst C.1 C.2.1 d hv (k p e R s m args below meth c A n0 ρ0 Q C F ρ κ ls H locs cells slots hW hL (jS_c (v := .long v) trivial hS) h1 h2)

theorem J.anull (d : decode mi.2.1 pc = .ok (.aconst_null, 1)) (k : J Γ b mi (pc + 1) L (.null :: S) M P X) : J Γ b mi pc L (S) M P X := by
  intro p e R s m args below meth c A n0 ρ0 Q C F ρ κ ls H locs cells slots hW hL hS h1 h2
  exact lv_null C.1 C.2.1 d (k p e R s m args below meth c A n0 ρ0 Q C F ρ κ ls H locs cells slots hW hL (jS_c (v := .null) trivial hS) h1 h2)

theorem J.ldc {n : Nat} (v : Int32) (d : decode mi.2.1 pc = .ok (.ldc n, 2)) (hw : Cond.constant mi.1.cls n v ∈ jG) (k : J Γ b mi (pc + 2) L (.int v :: S) M P X) : J Γ b mi pc L (S) M P X := by
  intro p e R s m args below meth c A n0 ρ0 Q C F ρ κ ls H locs cells slots hW hL hS h1 h2
  exact lv_ldc C.1 C.2.1 C.2.2.2.2.2.1 (C.2.2.2.2.2.2.1 _ hw) d (k p e R s m args below meth c A n0 ρ0 Q C F ρ κ ls H locs cells slots hW hL (jS_c (v := .int v) trivial hS) h1 h2)

theorem J.ldcw {n : Nat} (v : Int32) (d : decode mi.2.1 pc = .ok (.ldc_w n, 3)) (hw : Cond.constant mi.1.cls n v ∈ jG) (k : J Γ b mi (pc + 3) L (.int v :: S) M P X) : J Γ b mi pc L (S) M P X := by
  intro p e R s m args below meth c A n0 ρ0 Q C F ρ κ ls H locs cells slots hW hL hS h1 h2
  exact lv_ldcw C.1 C.2.1 C.2.2.2.2.2.1 (C.2.2.2.2.2.2.1 _ hw) d (k p e R s m args below meth c A n0 ρ0 Q C F ρ κ ls H locs cells slots hW hL (jS_c (v := .int v) trivial hS) h1 h2)

theorem J.pop {x : Int32} (d : decode mi.2.1 pc = .ok (.pop, 1)) (k : J Γ b mi (pc + 1) L (S) M P X) : J Γ b mi pc L (.int x :: S) M P X := by
  intro p e R s m args below meth c A n0 ρ0 Q C F ρ κ ls H locs cells slots hW hL hS h1 h2
  exact lv_pop C.1 C.2.1 d rfl (k p e R s m args below meth c A n0 ρ0 Q C F ρ κ ls H locs cells slots hW hL (jS_tl hS) h1 h2)

theorem J.dupI {x : Int32} (d : decode mi.2.1 pc = .ok (.dup, 1)) (k : J Γ b mi (pc + 1) L (.int x :: .int x :: S) M P X) : J Γ b mi pc L (.int x :: S) M P X := by
  intro p e R s m args below meth c A n0 ρ0 Q C F ρ κ ls H locs cells slots hW hL hS h1 h2
  exact lv_dup C.1 C.2.1 d rfl (k p e R s m args below meth c A n0 ρ0 Q C F ρ κ ls H locs cells slots hW hL (jS_c (jS_hd hS) hS) h1 h2)

theorem J.dupR {x : Nat} (d : decode mi.2.1 pc = .ok (.dup, 1)) (k : J Γ b mi (pc + 1) L (.ref x :: .ref x :: S) M P X) : J Γ b mi pc L (.ref x :: S) M P X := by
  intro p e R s m args below meth c A n0 ρ0 Q C F ρ κ ls H locs cells slots hW hL hS h1 h2
  exact lv_dup C.1 C.2.1 d rfl (k p e R s m args below meth c A n0 ρ0 Q C F ρ κ ls H locs cells slots hW hL (jS_c (jS_hd hS) hS) h1 h2)

theorem J.dconst0 (d : decode mi.2.1 pc = .ok (.dconst 0, 1)) (k : J Γ b mi (pc + 1) L (.double 0 :: S) M P X) : J Γ b mi pc L S M P X := by
  intro p e R s m args below meth c A n0 ρ0 Q C F ρ κ ls H locs cells slots hW hL hS h1 h2
  exact lv_dconst0 C.1 C.2.1 d (k p e R s m args below meth c A n0 ρ0 Q C F ρ κ ls H locs cells slots hW hL (jS_c (v := .double 0) trivial hS) h1 h2)

theorem J.iload {i : Nat} {x : Int32} (d : decode mi.2.1 pc = .ok (.iload i, 2)) (hl : L[i]? = some (some (.int x))) (k : J Γ b mi (pc + 2) L (.int x :: S) M P X) : J Γ b mi pc L S M P X := by
  intro p e R s m args below meth c A n0 ρ0 Q C F ρ κ ls H locs cells slots hW hL hS h1 h2
  exact lv_iload C.1 C.2.1 d (hL.2.2.2 i _ hl).1 (k p e R s m args below meth c A n0 ρ0 Q C F ρ κ ls H locs cells slots hW hL (jS_c (v := .int x) trivial hS) h1 h2)

theorem J.iload_n {j : Fin 4} (i : Nat) {x : Int32} (d : decode mi.2.1 pc = .ok (.iload_n j, 1)) (hi : (j : Nat) = i) (hl : L[i]? = some (some (.int x))) (k : J Γ b mi (pc + 1) L (.int x :: S) M P X) : J Γ b mi pc L S M P X := by
  intro p e R s m args below meth c A n0 ρ0 Q C F ρ κ ls H locs cells slots hW hL hS h1 h2
  exact lv_iload_n C.1 C.2.1 d hi (hL.2.2.2 i _ hl).1 (k p e R s m args below meth c A n0 ρ0 Q C F ρ κ ls H locs cells slots hW hL (jS_c (v := .int x) trivial hS) h1 h2)

theorem J.aload {i : Nat} {x : Nat} (d : decode mi.2.1 pc = .ok (.aload i, 2)) (hl : L[i]? = some (some (.ref x))) (k : J Γ b mi (pc + 2) L (.ref x :: S) M P X) : J Γ b mi pc L S M P X := by
  intro p e R s m args below meth c A n0 ρ0 Q C F ρ κ ls H locs cells slots hW hL hS h1 h2
  exact lv_aload C.1 C.2.1 d (hL.2.2.2 i _ hl).1 (k p e R s m args below meth c A n0 ρ0 Q C F ρ κ ls H locs cells slots hW hL (jS_c (v := .ref x) (hL.2.2.2 i _ hl).2 hS) h1 h2)

theorem J.aload_n {j : Fin 4} (i : Nat) {x : Nat} (d : decode mi.2.1 pc = .ok (.aload_n j, 1)) (hi : (j : Nat) = i) (hl : L[i]? = some (some (.ref x))) (k : J Γ b mi (pc + 1) L (.ref x :: S) M P X) : J Γ b mi pc L S M P X := by
  intro p e R s m args below meth c A n0 ρ0 Q C F ρ κ ls H locs cells slots hW hL hS h1 h2
  exact lv_aload_n C.1 C.2.1 d hi (hL.2.2.2 i _ hl).1 (k p e R s m args below meth c A n0 ρ0 Q C F ρ κ ls H locs cells slots hW hL (jS_c (v := .ref x) (hL.2.2.2 i _ hl).2 hS) h1 h2)

theorem J.dload {i : Nat} {x : UInt64} (d : decode mi.2.1 pc = .ok (.dload i, 2)) (hl : L[i]? = some (some (.double x))) (k : J Γ b mi (pc + 2) L (.double x :: S) M P X) : J Γ b mi pc L S M P X := by
  intro p e R s m args below meth c A n0 ρ0 Q C F ρ κ ls H locs cells slots hW hL hS h1 h2
  exact lv_dload C.1 C.2.1 d (hL.2.2.2 i _ hl).1 (k p e R s m args below meth c A n0 ρ0 Q C F ρ κ ls H locs cells slots hW hL (jS_c (v := .double x) trivial hS) h1 h2)

theorem J.dload_n {j : Fin 4} (i : Nat) {x : UInt64} (d : decode mi.2.1 pc = .ok (.dload_n j, 1)) (hi : (j : Nat) = i) (hl : L[i]? = some (some (.double x))) (k : J Γ b mi (pc + 1) L (.double x :: S) M P X) : J Γ b mi pc L S M P X := by
  intro p e R s m args below meth c A n0 ρ0 Q C F ρ κ ls H locs cells slots hW hL hS h1 h2
  exact lv_dload_n C.1 C.2.1 d hi (hL.2.2.2 i _ hl).1 (k p e R s m args below meth c A n0 ρ0 Q C F ρ κ ls H locs cells slots hW hL (jS_c (v := .double x) trivial hS) h1 h2)

/-- no number of two words ends at place i -/
def jcat (L : List (Option Value)) : Nat → Bool
  | 0 => true
  | k + 1 => match L[k]? with
    | some (some v) => v.category != 2
    | _ => true
/-- the known locals as a list -/
def jas (ρ : Nat → Nat) (L : List (Option Value)) : List (Nat × Value) := (List.range L.length).filterMap fun k => (L[k]?.join).map fun v => (k, jre ρ v)
theorem jas_mem {ρ : Nat → Nat} {L : List (Option Value)} {k : Nat} {v : Value} (h : L[k]? = some (some v)) : (k, jre ρ v) ∈ jas ρ L := by
  unfold jas
  refine List.mem_filterMap.mpr ⟨k, List.mem_range.mpr (List.getElem?_eq_some_iff.mp h).1, ?_⟩
  rw [h]; rfl
theorem jas_has {ρ : Nat → Nat} {n nL : Nat} {L : List (Option Value)} {ls : Array Slot} (hL : jL ρ n nL L ls) : lv_has ls nL (jas ρ L) := by
  refine ⟨hL.2.1, hL.1, fun q hq => ?_⟩
  obtain ⟨k, -, hk⟩ := List.mem_filterMap.mp hq
  cases h : L[k]? with
  | none => rw [h] at hk; cases hk
  | some o => cases o with
    | none => rw [h] at hk; cases hk
    | some v => rw [h] at hk; cases hk; exact (hL.2.2.2 k v h).1
theorem jL_set {ρ : Nat → Nat} {n nL i : Nat} {L : List (Option Value)} {ls ls' : Array Slot} {v : Value} {o : Option Value} (hL : jL ρ n nL L ls) (hc : jcat L i = true) (ho : o = some v ∨ o = none) (hv : o = some v → jok n v)
    (h : lv_has ls' nL ((i, jre ρ v) :: (jas ρ L).filter (fun q => !(q.1 == i) && !(q.1 + 1 == i && q.2.category == 2)))) : jL ρ n nL (L.set i o) ls' := by
  refine ⟨h.2.1, h.1, by rw [List.length_set]; exact hL.2.2.1, fun k w hk => ?_⟩
  rw [List.getElem?_set] at hk
  by_cases hki : i = k
  · subst hki
    rw [if_pos rfl] at hk
    split at hk
    · rcases ho with ho | ho
      · rw [ho] at hk; cases hk
        exact ⟨h.2.2 _ List.mem_cons_self, hv ho⟩
      · rw [ho] at hk; cases hk
    · cases hk
  · rw [if_neg hki] at hk
    refine ⟨h.2.2 (k, jre ρ w) (List.mem_cons_of_mem _ (List.mem_filter.mpr ⟨jas_mem hk, ?_⟩)), (hL.2.2.2 k w hk).2⟩
    have h1 : (k == i) = false := by simpa using fun e : k = i => hki e.symm
    simp only [h1, Bool.not_false, Bool.true_and, Bool.not_eq_true', Bool.and_eq_false_iff, beq_eq_false_iff_ne]
    by_cases h2 : k + 1 = i
    · right
      subst h2
      rw [jre_cat]
      have hc2 := hc
      simp only [jcat, hk] at hc2
      simpa using hc2
    · left; exact h2

theorem J.istore {i : Nat} {x : Int32} (d : decode mi.2.1 pc = .ok (.istore i, 2)) (hn : i < mi.2.2.1) (hc : jcat L i = true) (k : J Γ b mi (pc + 2) (L.set i (some (.int x))) S M P X) : J Γ b mi pc L (.int x :: S) M P X := by
  intro p e R s m args below meth c A n0 ρ0 Q C F ρ κ ls H locs cells slots hW hL hS h1 h2
  exact lv_istore C.1 C.2.1 d (jas_has hL) hn rfl (fun ls' hl' => k p e R s m args below meth c A n0 ρ0 Q C F ρ κ ls' H locs cells slots hW (jL_set (v := .int x) hL hc (Or.inl rfl) (fun _ => jS_hd hS) hl') (jS_tl hS) h1 h2)

theorem J.istore_n {j : Fin 4} (i : Nat) {x : Int32} (d : decode mi.2.1 pc = .ok (.istore_n j, 1)) (hi : (j : Nat) = i) (hn : i < mi.2.2.1) (hc : jcat L i = true) (k : J Γ b mi (pc + 1) (L.set i (some (.int x))) S M P X) : J Γ b mi pc L (.int x :: S) M P X := by
  intro p e R s m args below meth c A n0 ρ0 Q C F ρ κ ls H locs cells slots hW hL hS h1 h2
  exact lv_istore_n C.1 C.2.1 d hi (jas_has hL) hn rfl (fun ls' hl' => k p e R s m args below meth c A n0 ρ0 Q C F ρ κ ls' H locs cells slots hW (jL_set (v := .int x) hL hc (Or.inl rfl) (fun _ => jS_hd hS) hl') (jS_tl hS) h1 h2)

theorem J.astore {i : Nat} {x : Nat} (d : decode mi.2.1 pc = .ok (.astore i, 2)) (hn : i < mi.2.2.1) (hc : jcat L i = true) (k : J Γ b mi (pc + 2) (L.set i (some (.ref x))) S M P X) : J Γ b mi pc L (.ref x :: S) M P X := by
  intro p e R s m args below meth c A n0 ρ0 Q C F ρ κ ls H locs cells slots hW hL hS h1 h2
  exact lv_astore C.1 C.2.1 d (jas_has hL) hn rfl (fun ls' hl' => k p e R s m args below meth c A n0 ρ0 Q C F ρ κ ls' H locs cells slots hW (jL_set (v := .ref x) hL hc (Or.inl rfl) (fun _ => jS_hd hS) hl') (jS_tl hS) h1 h2)

theorem J.astore_n {j : Fin 4} (i : Nat) {x : Nat} (d : decode mi.2.1 pc = .ok (.astore_n j, 1)) (hi : (j : Nat) = i) (hn : i < mi.2.2.1) (hc : jcat L i = true) (k : J Γ b mi (pc + 1) (L.set i (some (.ref x))) S M P X) : J Γ b mi pc L (.ref x :: S) M P X := by
  intro p e R s m args below meth c A n0 ρ0 Q C F ρ κ ls H locs cells slots hW hL hS h1 h2
  exact lv_astore_n C.1 C.2.1 d hi (jas_has hL) hn rfl (fun ls' hl' => k p e R s m args below meth c A n0 ρ0 Q C F ρ κ ls' H locs cells slots hW (jL_set (v := .ref x) hL hc (Or.inl rfl) (fun _ => jS_hd hS) hl') (jS_tl hS) h1 h2)

theorem J.iinc {i : Nat} {n : Int} {x : Int32} (d : decode mi.2.1 pc = .ok (.iinc i n, 3)) (hl : L[i]? = some (some (.int x))) (v : Int32) (hv : x + Int32.ofInt n = v) (hc : jcat L i = true) (k : J Γ b mi (pc + 3) (L.set i (some (.int v))) S M P X) : J Γ b mi pc L S M P X := by
  intro p e R s m args below meth c A n0 ρ0 Q C F ρ κ ls H locs cells slots hW hL hS h1 h2
  obtain ⟨j, hj⟩ := List.getElem?_of_mem (jas_mem (ρ := ρ) hl)
  exact lv_iinc C.1 C.2.1 d (jas_has hL) hj hv (by rw [← hL.2.2.1]; exact (List.getElem?_eq_some_iff.mp hl).1) rfl (fun ls' hl' => k p e R s m args below meth c A n0 ρ0 Q C F ρ κ ls' H locs cells slots hW (jL_set (v := .int v) hL hc (Or.inl rfl) (fun _ => trivial) hl') hS h1 h2)

theorem J.icmp_eq {x y : Int32} {off : Int} (tgt : Nat) (d : decode mi.2.1 pc = .ok (.if_icmp .eq off, 3)) (ht : (pc : Int) + off = (tgt : Int)) (kt : x = y → J Γ b mi tgt L S M P X) (kf : ¬ x = y → J Γ b mi (pc + 3) L S M P X) : J Γ b mi pc L (.int y :: .int x :: S) M P X := by
  intro p e R s m args below meth c A n0 ρ0 Q C F ρ κ ls H locs cells slots hW hL hS h1 h2
  exact lv_icmp_eq C.1 C.2.1 d ht (fun h => kt h p e R s m args below meth c A n0 ρ0 Q C F ρ κ ls H locs cells slots hW hL (jS_tl (jS_tl hS)) h1 h2) (fun h => kf h p e R s m args below meth c A n0 ρ0 Q C F ρ κ ls H locs cells slots hW hL (jS_tl (jS_tl hS)) h1 h2)

theorem J.if_eq {x : Int32} {off : Int} (tgt : Nat) (d : decode mi.2.1 pc = .ok (.ifCond .eq off, 3)) (ht : (pc : Int) + off = (tgt : Int)) (kt : x = 0 → J Γ b mi tgt L S M P X) (kf : ¬ x = 0 → J Γ b mi (pc + 3) L S M P X) : J Γ b mi pc L (.int x :: S) M P X := by
  intro p e R s m args below meth c A n0 ρ0 Q C F ρ κ ls H locs cells slots hW hL hS h1 h2
  exact lv_if_eq C.1 C.2.1 d ht (fun h => kt h p e R s m args below meth c A n0 ρ0 Q C F ρ κ ls H locs cells slots hW hL (jS_tl hS) h1 h2) (fun h => kf h p e R s m args below meth c A n0 ρ0 Q C F ρ κ ls H locs cells slots hW hL (jS_tl hS) h1 h2)

theorem J.icmp_lt {x y : Int32} {off : Int} (tgt : Nat) (d : decode mi.2.1 pc = .ok (.if_icmp .lt off, 3)) (ht : (pc : Int) + off = (tgt : Int)) (kt : x < y → J Γ b mi tgt L S M P X) (kf : ¬ x < y → J Γ b mi (pc + 3) L S M P X) : J Γ b mi pc L (.int y :: .int x :: S) M P X := by
  intro p e R s m args below meth c A n0 ρ0 Q C F ρ κ ls H locs cells slots hW hL hS h1 h2
  exact lv_icmp_lt C.1 C.2.1 d ht (fun h => kt h p e R s m args below meth c A n0 ρ0 Q C F ρ κ ls H locs cells slots hW hL (jS_tl (jS_tl hS)) h1 h2) (fun h => kf h p e R s m args below meth c A n0 ρ0 Q C F ρ κ ls H locs cells slots hW hL (jS_tl (jS_tl hS)) h1 h2)

theorem J.if_lt {x : Int32} {off : Int} (tgt : Nat) (d : decode mi.2.1 pc = .ok (.ifCond .lt off, 3)) (ht : (pc : Int) + off = (tgt : Int)) (kt : x < 0 → J Γ b mi tgt L S M P X) (kf : ¬ x < 0 → J Γ b mi (pc + 3) L S M P X) : J Γ b mi pc L (.int x :: S) M P X := by
  intro p e R s m args below meth c A n0 ρ0 Q C F ρ κ ls H locs cells slots hW hL hS h1 h2
  exact lv_if_lt C.1 C.2.1 d ht (fun h => kt h p e R s m args below meth c A n0 ρ0 Q C F ρ κ ls H locs cells slots hW hL (jS_tl hS) h1 h2) (fun h => kf h p e R s m args below meth c A n0 ρ0 Q C F ρ κ ls H locs cells slots hW hL (jS_tl hS) h1 h2)

theorem J.icmp_ge {x y : Int32} {off : Int} (tgt : Nat) (d : decode mi.2.1 pc = .ok (.if_icmp .ge off, 3)) (ht : (pc : Int) + off = (tgt : Int)) (kt : y ≤ x → J Γ b mi tgt L S M P X) (kf : ¬ y ≤ x → J Γ b mi (pc + 3) L S M P X) : J Γ b mi pc L (.int y :: .int x :: S) M P X := by
  intro p e R s m args below meth c A n0 ρ0 Q C F ρ κ ls H locs cells slots hW hL hS h1 h2
  exact lv_icmp_ge C.1 C.2.1 d ht (fun h => kt h p e R s m args below meth c A n0 ρ0 Q C F ρ κ ls H locs cells slots hW hL (jS_tl (jS_tl hS)) h1 h2) (fun h => kf h p e R s m args below meth c A n0 ρ0 Q C F ρ κ ls H locs cells slots hW hL (jS_tl (jS_tl hS)) h1 h2)

theorem J.if_ge {x : Int32} {off : Int} (tgt : Nat) (d : decode mi.2.1 pc = .ok (.ifCond .ge off, 3)) (ht : (pc : Int) + off = (tgt : Int)) (kt : 0 ≤ x → J Γ b mi tgt L S M P X) (kf : ¬ 0 ≤ x → J Γ b mi (pc + 3) L S M P X) : J Γ b mi pc L (.int x :: S) M P X := by
  intro p e R s m args below meth c A n0 ρ0 Q C F ρ κ ls H locs cells slots hW hL hS h1 h2
  exact lv_if_ge C.1 C.2.1 d ht (fun h => kt h p e R s m args below meth c A n0 ρ0 Q C F ρ κ ls H locs cells slots hW hL (jS_tl hS) h1 h2) (fun h => kf h p e R s m args below meth c A n0 ρ0 Q C F ρ κ ls H locs cells slots hW hL (jS_tl hS) h1 h2)

theorem J.icmp_gt {x y : Int32} {off : Int} (tgt : Nat) (d : decode mi.2.1 pc = .ok (.if_icmp .gt off, 3)) (ht : (pc : Int) + off = (tgt : Int)) (kt : y < x → J Γ b mi tgt L S M P X) (kf : ¬ y < x → J Γ b mi (pc + 3) L S M P X) : J Γ b mi pc L (.int y :: .int x :: S) M P X := by
  intro p e R s m args below meth c A n0 ρ0 Q C F ρ κ ls H locs cells slots hW hL hS h1 h2
  exact lv_icmp_gt C.1 C.2.1 d ht (fun h => kt h p e R s m args below meth c A n0 ρ0 Q C F ρ κ ls H locs cells slots hW hL (jS_tl (jS_tl hS)) h1 h2) (fun h => kf h p e R s m args below meth c A n0 ρ0 Q C F ρ κ ls H locs cells slots hW hL (jS_tl (jS_tl hS)) h1 h2)

theorem J.if_gt {x : Int32} {off : Int} (tgt : Nat) (d : decode mi.2.1 pc = .ok (.ifCond .gt off, 3)) (ht : (pc : Int) + off = (tgt : Int)) (kt : 0 < x → J Γ b mi tgt L S M P X) (kf : ¬ 0 < x → J Γ b mi (pc + 3) L S M P X) : J Γ b mi pc L (.int x :: S) M P X := by
  intro p e R s m args below meth c A n0 ρ0 Q C F ρ κ ls H locs cells slots hW hL hS h1 h2
  exact lv_if_gt C.1 C.2.1 d ht (fun h => kt h p e R s m args below meth c A n0 ρ0 Q C F ρ κ ls H locs cells slots hW hL (jS_tl hS) h1 h2) (fun h => kf h p e R s m args below meth c A n0 ρ0 Q C F ρ κ ls H locs cells slots hW hL (jS_tl hS) h1 h2)

theorem J.icmp_le {x y : Int32} {off : Int} (tgt : Nat) (d : decode mi.2.1 pc = .ok (.if_icmp .le off, 3)) (ht : (pc : Int) + off = (tgt : Int)) (kt : x ≤ y → J Γ b mi tgt L S M P X) (kf : ¬ x ≤ y → J Γ b mi (pc + 3) L S M P X) : J Γ b mi pc L (.int y :: .int x :: S) M P X := by
  intro p e R s m args below meth c A n0 ρ0 Q C F ρ κ ls H locs cells slots hW hL hS h1 h2
  exact lv_icmp_le C.1 C.2.1 d ht (fun h => kt h p e R s m args below meth c A n0 ρ0 Q C F ρ κ ls H locs cells slots hW hL (jS_tl (jS_tl hS)) h1 h2) (fun h => kf h p e R s m args below meth c A n0 ρ0 Q C F ρ κ ls H locs cells slots hW hL (jS_tl (jS_tl hS)) h1 h2)

theorem J.if_le {x : Int32} {off : Int} (tgt : Nat) (d : decode mi.2.1 pc = .ok (.ifCond .le off, 3)) (ht : (pc : Int) + off = (tgt : Int)) (kt : x ≤ 0 → J Γ b mi tgt L S M P X) (kf : ¬ x ≤ 0 → J Γ b mi (pc + 3) L S M P X) : J Γ b mi pc L (.int x :: S) M P X := by
  intro p e R s m args below meth c A n0 ρ0 Q C F ρ κ ls H locs cells slots hW hL hS h1 h2
  exact lv_if_le C.1 C.2.1 d ht (fun h => kt h p e R s m args below meth c A n0 ρ0 Q C F ρ κ ls H locs cells slots hW hL (jS_tl hS) h1 h2) (fun h => kf h p e R s m args below meth c A n0 ρ0 Q C F ρ κ ls H locs cells slots hW hL (jS_tl hS) h1 h2)

theorem J.icmp_ne {x y : Int32} {off : Int} (tgt : Nat) (d : decode mi.2.1 pc = .ok (.if_icmp .ne off, 3)) (ht : (pc : Int) + off = (tgt : Int)) (kt : ¬ x = y → J Γ b mi tgt L S M P X) (kf : x = y → J Γ b mi (pc + 3) L S M P X) : J Γ b mi pc L (.int y :: .int x :: S) M P X := by
  intro p e R s m args below meth c A n0 ρ0 Q C F ρ κ ls H locs cells slots hW hL hS h1 h2
  exact lv_icmp_ne C.1 C.2.1 d ht (fun h => kt h p e R s m args below meth c A n0 ρ0 Q C F ρ κ ls H locs cells slots hW hL (jS_tl (jS_tl hS)) h1 h2) (fun h => kf h p e R s m args below meth c A n0 ρ0 Q C F ρ κ ls H locs cells slots hW hL (jS_tl (jS_tl hS)) h1 h2)

theorem J.if_ne {x : Int32} {off : Int} (tgt : Nat) (d : decode mi.2.1 pc = .ok (.ifCond .ne off, 3)) (ht : (pc : Int) + off = (tgt : Int)) (kt : ¬ x = 0 → J Γ b mi tgt L S M P X) (kf : x = 0 → J Γ b mi (pc + 3) L S M P X) : J Γ b mi pc L (.int x :: S) M P X := by
  intro p e R s m args below meth c A n0 ρ0 Q C F ρ κ ls H locs cells slots hW hL hS h1 h2
  exact lv_if_ne C.1 C.2.1 d ht (fun h => kt h p e R s m args below meth c A n0 ρ0 Q C F ρ κ ls H locs cells slots hW hL (jS_tl hS) h1 h2) (fun h => kf h p e R s m args below meth c A n0 ρ0 Q C F ρ κ ls H locs cells slots hW hL (jS_tl hS) h1 h2)

theorem J.goto {off : Int} (tgt : Nat) (d : decode mi.2.1 pc = .ok (.goto off, 3)) (ht : (pc : Int) + off = (tgt : Int)) (k : J Γ b mi tgt L S M P X) : J Γ b mi pc L S M P X := by
  intro p e R s m args below meth c A n0 ρ0 Q C F ρ κ ls H locs cells slots hW hL hS h1 h2
  exact lv_goto C.1 C.2.1 d ht (k p e R s m args below meth c A n0 ρ0 Q C F ρ κ ls H locs cells slots hW hL hS h1 h2)

theorem J.ifnullR {x : Nat} {off : Int} (d : decode mi.2.1 pc = .ok (.ifnull off, 3)) (k : J Γ b mi (pc + 3) L S M P X) : J Γ b mi pc L (.ref x :: S) M P X := by
  intro p e R s m args below meth c A n0 ρ0 Q C F ρ κ ls H locs cells slots hW hL hS h1 h2
  exact lv_ifnull C.1 C.2.1 d (k p e R s m args below meth c A n0 ρ0 Q C F ρ κ ls H locs cells slots hW hL (jS_tl hS) h1 h2)

theorem J.tableIn {dflt lo hi : Int} {offs : Array Int} {len : Nat} {x : Int32} {off : Int} (tgt : Nat) (d : decode mi.2.1 pc = .ok (.tableswitch dflt lo hi offs, len)) (g1 : ¬ x.toInt < lo) (g2 : ¬ hi < x.toInt) (ho : offs[(x.toInt - lo).toNat]? = some off) (ht : (pc : Int) + off = (tgt : Int)) (k : J Γ b mi tgt L S M P X) : J Γ b mi pc L (.int x :: S) M P X := by
  intro p e R s m args below meth c A n0 ρ0 Q C F ρ κ ls H locs cells slots hW hL hS h1 h2
  exact lv_tableIn C.1 C.2.1 d g1 g2 ho ht (k p e R s m args below meth c A n0 ρ0 Q C F ρ κ ls H locs cells slots hW hL (jS_tl hS) h1 h2)

/-- a field: the class by its number, its place, its type, and the word that links it -/
def jFld (own : String) (idx ci k : Nat) (ty : FieldType) (fin : Bool) : Prop :=
  ∃ C T N, vwCl[ci]? = some (C, T, N) ∧ k < N ∧ Cond.fieldLink own idx C (T k).2.1 (T k).2.2.1 ∈ jG ∧ (T k).1 = C ∧ parseFieldDescriptor (T k).2.2.1 = some ty ∧ (T k).2.2.2 = fin
/-- what the tables say of each class -/
def jCls : Prop := ∀ (ci : Nat) (C : String) (T : u_T) (N : Nat), vwCl[ci]? = some (C, T, N) → ci < 100 ∧ (∀ w ∈ u_ws C T N, w ∈ jG) ∧ (∃ ty0 : Nat → FieldType, ∀ k, k < N → parseFieldDescriptor (T k).2.2.1 = some (ty0 k)) ∧ ∀ a, a < N → ∀ b, b < N → a ≠ b → (T a).2.1 ≠ (T b).2.1
theorem jcell_obj {ρ : Nat → Nat} {κ : Nat → ClassId} {M : jM} {q ci n : Nat} (h : ci < 100) : jcell ρ κ M q (ci, n) = .inr (ci, (List.range n).map (jfv ρ M q ci)) := by
  unfold jcell; rw [if_pos h]
theorem jfs_at {ρ : Nat → Nat} {M : jM} {q ci n k : Nat} (h : k < n) : ((List.range n).map (jfv ρ M q ci))[k]? = some (jfv ρ M q ci k) := by
  rw [List.getElem?_map, List.getElem?_range h]; rfl
theorem jfs_set {ρ : Nat → Nat} {M M' : jM} {q ci n k : Nat} {v : Value} (hk : jfv ρ M' q ci k = v) (ho : ∀ i, i ≠ k → jfv ρ M' q ci i = jfv ρ M q ci i) : ((List.range n).map (jfv ρ M q ci)).set k v = (List.range n).map (jfv ρ M' q ci) := by
  apply List.ext_getElem?
  intro i
  rw [List.getElem?_set, List.getElem?_map, List.getElem?_map]
  by_cases hi : k = i
  · subst hi
    rw [if_pos rfl]
    by_cases hn : k < n
    · simp [hn, hk]
    · simp [hn]
  · rw [if_neg hi]
    by_cases hn : i < n
    · simp [hn, ho i (fun e => hi e.symm)]
    · simp [hn]

theorem J.getI (hcl : jCls) {q idx ci k n : Nat} {ty : FieldType} {fin : Bool} (d : decode mi.2.1 pc = .ok (.getfield idx, 3)) (f : jFld mi.1.cls idx ci k ty fin) (hs : M.1[q]? = some (ci, n)) (hn : k < n) (hr : jrf ci k = false) (kk : J Γ b mi (pc + 3) L (.int (M.2.2.1 q k) :: S) M P X) : J Γ b mi pc L (.ref q :: S) M P X := by
  intro p e R s m args below meth c A n0 ρ0 Q C F ρ κ ls H locs cells slots hW hL hS h1 h2
  obtain ⟨Cn, T, N, hc, hk, hlk, hrf, hty, hfi⟩ := f
  obtain ⟨hci, hin, -, -⟩ := hcl ci Cn T N hc
  have he := jw_at (ρ := ρ) (κ := κ) hs
  rw [jcell_obj hci] at he
  refine va_get C.1 C.2.1 C.2.2.2.2.2.2.1 hin C.2.2.2.2.2.1 C.2.2.2.2.2.2.2.2.2.1 hW.1 q he hc k hk (C.2.2.2.2.2.2.1 _ hlk) (fun x hx => by rw [← hrf]; exact hx) (jfs_at hn) d ?_
  unfold jfv
  rw [if_neg (by rw [hr]; exact Bool.false_ne_true)]
  exact kk p e R s m args below meth c A n0 ρ0 Q C F ρ κ ls H locs cells slots hW hL (jS_c (v := .int _) trivial (jS_tl hS)) h1 h2

theorem J.getR (hcl : jCls) {q idx ci k n r : Nat} {ty : FieldType} {fin : Bool} (d : decode mi.2.1 pc = .ok (.getfield idx, 3)) (f : jFld mi.1.cls idx ci k ty fin) (hs : M.1[q]? = some (ci, n)) (hn : k < n) (hr : jrf ci k = true) (hv : M.2.1 q k = some r) (kk : J Γ b mi (pc + 3) L (.ref r :: S) M P X) : J Γ b mi pc L (.ref q :: S) M P X := by
  intro p e R s m args below meth c A n0 ρ0 Q C F ρ κ ls H locs cells slots hW hL hS h1 h2
  obtain ⟨Cn, T, N, hc, hk, hlk, hrf, hty, hfi⟩ := f
  obtain ⟨hci, hin, -, -⟩ := hcl ci Cn T N hc
  have he := jw_at (ρ := ρ) (κ := κ) hs
  rw [jcell_obj hci] at he
  refine va_get C.1 C.2.1 C.2.2.2.2.2.2.1 hin C.2.2.2.2.2.1 C.2.2.2.2.2.2.2.2.2.1 hW.1 q he hc k hk (C.2.2.2.2.2.2.1 _ hlk) (fun x hx => by rw [← hrf]; exact hx) (jfs_at hn) d ?_
  unfold jfv
  rw [if_pos hr, hv]
  exact kk p e R s m args below meth c A n0 ρ0 Q C F ρ κ ls H locs cells slots hW hL (jS_c (v := .ref r) (Or.inl (hW.2.2.2.2.1 q k r hv)) (jS_tl hS)) h1 h2

theorem jw_putI {ρ : Nat → Nat} {κ : Nat → ClassId} {M : jM} {q ci k n : Nat} {x : Int32} (hci : ci < 100) (hs : M.1[q]? = some (ci, n)) (hr : jrf ci k = false) :
    (jw ρ κ M).set q (ρ q, .inr (ci, ((List.range n).map (jfv ρ M q ci)).set k (.int x))) = jw ρ κ (M.1, M.2.1, jup2 M.2.2.1 q k x, M.2.2.2) := by
  have e1 : ((List.range n).map (jfv ρ M q ci)).set k (.int x) = (List.range n).map (jfv ρ (M.1, M.2.1, jup2 M.2.2.1 q k x, M.2.2.2) q ci) := by
    refine jfs_set ?_ ?_
    · unfold jfv; rw [if_neg (by rw [hr]; exact Bool.false_ne_true)]; simp [jup2]
    · intro i hi; unfold jfv; simp [jup2, hi]
  rw [e1, ← jcell_obj (κ := κ) hci]
  refine jw_set hs rfl ?_
  intro a z' ha _
  have e2 : ∀ c i, jfv ρ (M.1, M.2.1, jup2 M.2.2.1 q k x, M.2.2.2) a c i = jfv ρ M a c i := fun c i => by unfold jfv; simp [jup2, ha]
  have e3 : jup2 M.2.2.1 q k x a = M.2.2.1 a := by funext i; simp [jup2, ha]
  unfold jcell
  simp only [e3, show jfv ρ (M.1, M.2.1, jup2 M.2.2.1 q k x, M.2.2.2) a z'.1 = jfv ρ M a z'.1 from funext fun i => e2 _ i]
theorem jw_putR {ρ : Nat → Nat} {κ : Nat → ClassId} {M : jM} {q ci k n r : Nat} (hci : ci < 100) (hs : M.1[q]? = some (ci, n)) (hr : jrf ci k = true) :
    (jw ρ κ M).set q (ρ q, .inr (ci, ((List.range n).map (jfv ρ M q ci)).set k (.ref (ρ r)))) = jw ρ κ (M.1, jup2 M.2.1 q k (some r), M.2.2) := by
  have e1 : ((List.range n).map (jfv ρ M q ci)).set k (.ref (ρ r)) = (List.range n).map (jfv ρ (M.1, jup2 M.2.1 q k (some r), M.2.2) q ci) := by
    refine jfs_set ?_ ?_
    · unfold jfv; rw [if_pos hr]; simp [jup2, va_rf]
    · intro i hi; unfold jfv; simp [jup2, hi]
  rw [e1, ← jcell_obj (κ := κ) hci]
  refine jw_set hs rfl ?_
  intro a z' ha _
  have e3 : jup2 M.2.1 q k (some r) a = M.2.1 a := by funext i; simp [jup2, ha]
  unfold jcell jfv
  simp only [e3]

theorem J.putI (hcl : jCls) {q idx ci k n : Nat} {ty : FieldType} {x : Int32} (d : decode mi.2.1 pc = .ok (.putfield idx, 3)) (f : jFld mi.1.cls idx ci k ty false) (hs : M.1[q]? = some (ci, n)) (hn : k < n) (hr : jrf ci k = false) (hx : narrow ty (.int x) = .int x) (hx2 : fits ty (.int x) = true) (kk : J Γ b mi (pc + 3) L S (M.1, M.2.1, jup2 M.2.2.1 q k x, M.2.2.2) P X) : J Γ b mi pc L (.int x :: .ref q :: S) M P X := by
  intro p e R s m args below meth c A n0 ρ0 Q C F ρ κ ls H locs cells slots hW hL hS h1 h2
  obtain ⟨Cn, T, N, hc, hk, hlk, hrf, hty, hfi⟩ := f
  obtain ⟨hci, hin, ⟨ty0, hty0⟩, hnm⟩ := hcl ci Cn T N hc
  have he := jw_at (ρ := ρ) (κ := κ) hs
  rw [jcell_obj hci] at he
  refine va_put (v := .int x) C.1 C.2.1 C.2.2.2.2.2.2.1 hin ty0 hty0 hnm C.2.2.2.2.2.1 C.2.2.2.2.2.2.2.2.2.1 hW.1 hW.2.1 hW.2.2.1 q he hc k hk (C.2.2.2.2.2.2.1 _ hlk) (fun x hx => by rw [← hrf]; exact hx) hfi hty hx hx2 (by simpa using hn) d (fun H1 locs1 hP1 hD1 hS1 => ?_)
  rw [jw_putI hci hs hr] at hP1 hD1
  exact kk p e R s m args below meth c A n0 ρ0 Q C F ρ κ ls H1 locs1 cells slots ⟨hP1, hD1, hS1, hW.2.2.2⟩ hL (jS_tl (jS_tl hS)) h1 h2

theorem jtau_up {τ : Nat → Nat → Option Nat} {n q k r : Nat} (h : ∀ a i z, τ a i = some z → z < n) (hr : r < n) : ∀ a i z, jup2 τ q k (some r) a i = some z → z < n := by
  intro a i z hz
  unfold jup2 at hz
  split at hz
  · cases hz; exact hr
  · exact h a i z hz

theorem J.putFR (hcl : jCls) {q idx ci k n r : Nat} {ty : FieldType} (d : decode mi.2.1 pc = .ok (.putfield idx, 3)) (f : jFld mi.1.cls idx ci k ty true) (hs : M.1[q]? = some (ci, n)) (hn : k < n) (hr : jrf ci k = true) (hin2 : mi.1.name = "<init>") (hown : (vwCl.getD ci (RX0, TX0, 3)).1 = mi.1.cls) (hx : ∀ a : Nat, narrow ty (.ref a) = .ref a ∧ fits ty (.ref a) = true) (hrn : r < M.1.length) (kk : J Γ b mi (pc + 3) L S (M.1, jup2 M.2.1 q k (some r), M.2.2) P X) : J Γ b mi pc L (.ref r :: .ref q :: S) M P X := by
  intro p e R s m args below meth c A n0 ρ0 Q C F ρ κ ls H locs cells slots hW hL hS h1 h2
  obtain ⟨Cn, T, N, hc, hk, hlk, hrf, hty, hfi⟩ := f
  obtain ⟨hci, hin, ⟨ty0, hty0⟩, hnm⟩ := hcl ci Cn T N hc
  have he := jw_at (ρ := ρ) (κ := κ) hs
  rw [jcell_obj hci] at he
  refine va_putF (v := .ref (ρ r)) C.1 C.2.1 C.2.2.2.2.2.2.1 hin ty0 hty0 hnm C.2.2.2.2.2.1 C.2.2.2.2.2.2.2.2.2.1 hW.1 hW.2.1 hW.2.2.1 q he hc k hk (C.2.2.2.2.2.2.1 _ hlk) (fun x hx => by rw [← hrf]; exact hx) hfi (C.2.2.2.2.2.2.2.2.2.2.2.2.2.1 hin2) (by rw [hrf, ← hown, List.getD_eq_getElem?_getD, hc]; rfl) hty (hx _).1 (hx _).2 (by simpa using hn) d (fun H1 locs1 hP1 hD1 hS1 => ?_)
  rw [jw_putR hci hs hr] at hP1 hD1
  exact kk p e R s m args below meth c A n0 ρ0 Q C F ρ κ ls H1 locs1 cells slots ⟨hP1, hD1, hS1, hW.2.2.2.1, jtau_up hW.2.2.2.2.1 hrn, hW.2.2.2.2.2⟩ hL (jS_tl (jS_tl hS)) h1 h2

theorem jcell_arr {ρ : Nat → Nat} {κ : Nat → ClassId} {M : jM} {q t n : Nat} (h : t = 100 ∨ t = 101 ∨ t = 102) : jcell ρ κ M q (t, n) = .inl (κ q, n, .inl (M.2.2.1 q)) := by
  rcases h with rfl | rfl | rfl <;> rfl
theorem jw_setA {ρ : Nat → Nat} {κ : Nat → ClassId} {M : jM} {q t n i : Nat} {x : Int32} (ht : t = 100 ∨ t = 101 ∨ t = 102) (hs : M.1[q]? = some (t, n)) :
    (jw ρ κ M).set q (ρ q, .inl (κ q, n, .inl (upd (M.2.2.1 q) i x))) = jw ρ κ (M.1, M.2.1, jup2 M.2.2.1 q i x, M.2.2.2) := by
  have e1 : upd (M.2.2.1 q) i x = jup2 M.2.2.1 q i x q := by funext j; simp [upd, jup2]
  rw [e1]
  have e4 := jcell_arr (ρ := ρ) (κ := κ) (M := (M.1, M.2.1, jup2 M.2.2.1 q i x, M.2.2.2)) (q := q) (n := n) ht
  rw [← e4]
  refine jw_set hs rfl ?_
  intro a z' ha _
  have e2 : ∀ c j, jfv ρ (M.1, M.2.1, jup2 M.2.2.1 q i x, M.2.2.2) a c j = jfv ρ M a c j := fun c j => by unfold jfv; simp [jup2, ha]
  have e3 : jup2 M.2.2.1 q i x a = M.2.2.1 a := by funext j; simp [jup2, ha]
  unfold jcell
  simp only [e3, show jfv ρ (M.1, M.2.1, jup2 M.2.2.1 q i x, M.2.2.2) a z'.1 = jfv ρ M a z'.1 from funext fun i => e2 _ i]

theorem J.iald {q n : Nat} {i : Int32} (d : decode mi.2.1 pc = .ok (.iaload, 1)) (hs : M.1[q]? = some (100, n)) (hin : vp_in i n) (kk : J Γ b mi (pc + 1) L (.int (M.2.2.1 q i.toNatClampNeg) :: S) M P X) : J Γ b mi pc L (.int i :: .ref q :: S) M P X := by
  intro p e R s m args below meth c A n0 ρ0 Q C F ρ κ ls H locs cells slots hW hL hS h1 h2
  have he := jw_at (ρ := ρ) (κ := κ) hs
  rw [jcell_arr (by decide)] at he
  have hK := hW.2.2.2.1 q _ hs (Nat.le_of_ble_eq_true rfl)
  exact va_iald C.1 C.2.1 hK hW.1 q 0 he rfl hin d (kk p e R s m args below meth c A n0 ρ0 Q C F ρ κ ls H locs cells slots hW hL (jS_c (v := .int _) trivial (jS_tl (jS_tl hS))) h1 h2)

theorem J.iast {q n : Nat} {i x : Int32} (d : decode mi.2.1 pc = .ok (.iastore, 1)) (hs : M.1[q]? = some (100, n)) (hin : vp_in i n) (kk : J Γ b mi (pc + 1) L S (M.1, M.2.1, jup2 M.2.2.1 q i.toNatClampNeg x, M.2.2.2) P X) : J Γ b mi pc L (.int x :: .int i :: .ref q :: S) M P X := by
  intro p e R s m args below meth c A n0 ρ0 Q C F ρ κ ls H locs cells slots hW hL hS h1 h2
  have he := jw_at (ρ := ρ) (κ := κ) hs
  rw [jcell_arr (by decide)] at he
  have hK := hW.2.2.2.1 q _ hs (Nat.le_of_ble_eq_true rfl)
  refine va_iast C.1 C.2.1 hK hW.1 hW.2.1 hW.2.2.1 q 0 he rfl hin d (fun H1 locs1 hP1 hD1 hS1 => ?_)
  rw [jw_setA (by decide) hs] at hP1 hD1
  exact kk p e R s m args below meth c A n0 ρ0 Q C F ρ κ ls H1 locs1 cells slots ⟨hP1, hD1, hS1, hW.2.2.2⟩ hL (jS_tl (jS_tl (jS_tl hS))) h1 h2

theorem J.bald {q n : Nat} {i : Int32} (d : decode mi.2.1 pc = .ok (.baload, 1)) (hs : M.1[q]? = some (101, n)) (hin : vp_in i n) (kk : J Γ b mi (pc + 1) L (.int (M.2.2.1 q i.toNatClampNeg) :: S) M P X) : J Γ b mi pc L (.int i :: .ref q :: S) M P X := by
  intro p e R s m args below meth c A n0 ρ0 Q C F ρ κ ls H locs cells slots hW hL hS h1 h2
  have he := jw_at (ρ := ρ) (κ := κ) hs
  rw [jcell_arr (by decide)] at he
  have hK := hW.2.2.2.1 q _ hs (Nat.le_of_ble_eq_true rfl)
  exact va_bald C.1 C.2.1 hK hW.1 q 0 he rfl hin d (kk p e R s m args below meth c A n0 ρ0 Q C F ρ κ ls H locs cells slots hW hL (jS_c (v := .int _) trivial (jS_tl (jS_tl hS))) h1 h2)

theorem J.bast {q n : Nat} {i x : Int32} (d : decode mi.2.1 pc = .ok (.bastore, 1)) (hs : M.1[q]? = some (101, n)) (hin : vp_in i n) (kk : J Γ b mi (pc + 1) L S (M.1, M.2.1, jup2 M.2.2.1 q i.toNatClampNeg (vp_nar .byte x), M.2.2.2) P X) : J Γ b mi pc L (.int x :: .int i :: .ref q :: S) M P X := by
  intro p e R s m args below meth c A n0 ρ0 Q C F ρ κ ls H locs cells slots hW hL hS h1 h2
  have he := jw_at (ρ := ρ) (κ := κ) hs
  rw [jcell_arr (by decide)] at he
  have hK := hW.2.2.2.1 q _ hs (Nat.le_of_ble_eq_true rfl)
  refine va_bast C.1 C.2.1 hK hW.1 hW.2.1 hW.2.2.1 q 0 he rfl hin d (fun H1 locs1 hP1 hD1 hS1 => ?_)
  rw [jw_setA (by decide) hs] at hP1 hD1
  exact kk p e R s m args below meth c A n0 ρ0 Q C F ρ κ ls H1 locs1 cells slots ⟨hP1, hD1, hS1, hW.2.2.2⟩ hL (jS_tl (jS_tl (jS_tl hS))) h1 h2

theorem J.cald {q n : Nat} {i : Int32} (d : decode mi.2.1 pc = .ok (.caload, 1)) (hs : M.1[q]? = some (102, n)) (hin : vp_in i n) (kk : J Γ b mi (pc + 1) L (.int (M.2.2.1 q i.toNatClampNeg) :: S) M P X) : J Γ b mi pc L (.int i :: .ref q :: S) M P X := by
  intro p e R s m args below meth c A n0 ρ0 Q C F ρ κ ls H locs cells slots hW hL hS h1 h2
  have he := jw_at (ρ := ρ) (κ := κ) hs
  rw [jcell_arr (by decide)] at he
  have hK := hW.2.2.2.1 q _ hs (Nat.le_of_ble_eq_true rfl)
  exact va_cald C.1 C.2.1 hK hW.1 q 0 he rfl hin d (kk p e R s m args below meth c A n0 ρ0 Q C F ρ κ ls H locs cells slots hW hL (jS_c (v := .int _) trivial (jS_tl (jS_tl hS))) h1 h2)

theorem J.cast {q n : Nat} {i x : Int32} (d : decode mi.2.1 pc = .ok (.castore, 1)) (hs : M.1[q]? = some (102, n)) (hin : vp_in i n) (kk : J Γ b mi (pc + 1) L S (M.1, M.2.1, jup2 M.2.2.1 q i.toNatClampNeg (vp_nar .char x), M.2.2.2) P X) : J Γ b mi pc L (.int x :: .int i :: .ref q :: S) M P X := by
  intro p e R s m args below meth c A n0 ρ0 Q C F ρ κ ls H locs cells slots hW hL hS h1 h2
  have he := jw_at (ρ := ρ) (κ := κ) hs
  rw [jcell_arr (by decide)] at he
  have hK := hW.2.2.2.1 q _ hs (Nat.le_of_ble_eq_true rfl)
  refine va_cast C.1 C.2.1 hK hW.1 hW.2.1 hW.2.2.1 q 0 he rfl hin d (fun H1 locs1 hP1 hD1 hS1 => ?_)
  rw [jw_setA (by decide) hs] at hP1 hD1
  exact kk p e R s m args below meth c A n0 ρ0 Q C F ρ κ ls H1 locs1 cells slots ⟨hP1, hD1, hS1, hW.2.2.2⟩ hL (jS_tl (jS_tl (jS_tl hS))) h1 h2

theorem J.alen {q t n : Nat} (d : decode mi.2.1 pc = .ok (.arraylength, 1)) (hs : M.1[q]? = some (t, n)) (ht : 100 ≤ t) (kk : J Γ b mi (pc + 1) L (.int (Int32.ofNat n) :: S) M P X) : J Γ b mi pc L (.ref q :: S) M P X := by
  intro p e R s m args below meth c A n0 ρ0 Q C F ρ κ ls H locs cells slots hW hL hS h1 h2
  have he := jw_at (ρ := ρ) (κ := κ) hs
  unfold jcell at he
  rw [if_neg (Nat.not_lt.mpr ht)] at he
  exact va_alen C.1 C.2.1 (hW.2.2.2.1 q _ hs ht) hW.1 q 0 he rfl rfl d (kk p e R s m args below meth c A n0 ρ0 Q C F ρ κ ls H locs cells slots hW hL (jS_c (v := .int _) trivial (jS_tl hS)) h1 h2)

theorem jw_setL {ρ : Nat → Nat} {κ : Nat → ClassId} {M : jM} {q n i : Nat} {x : Int64} (hs : M.1[q]? = some (103, n)) :
    (jw ρ κ M).set q (ρ q, .inl (κ q, n, .inr (.inl (vp_updL (M.2.2.2.1 q) i x)))) = jw ρ κ (M.1, M.2.1, M.2.2.1, jup2 M.2.2.2.1 q i x, M.2.2.2.2) := by
  have e1 : vp_updL (M.2.2.2.1 q) i x = jup2 M.2.2.2.1 q i x q := by funext j; simp [vp_updL, jup2]
  rw [e1]
  refine jw_set (M' := (M.1, M.2.1, M.2.2.1, jup2 M.2.2.2.1 q i x, M.2.2.2.2)) hs rfl ?_
  intro a z' ha _
  have e3 : jup2 M.2.2.2.1 q i x a = M.2.2.2.1 a := by funext j; simp [jup2, ha]
  unfold jcell jfv
  simp only [e3]
theorem jw_setD {ρ : Nat → Nat} {κ : Nat → ClassId} {M : jM} {q n i : Nat} {x : UInt64} (hs : M.1[q]? = some (104, n)) :
    (jw ρ κ M).set q (ρ q, .inl (κ q, n, .inr (.inr (.inr (.inl (vf_upd (M.2.2.2.2 q) i x)))))) = jw ρ κ (M.1, M.2.1, M.2.2.1, M.2.2.2.1, jup2 M.2.2.2.2 q i x) := by
  have e1 : vf_upd (M.2.2.2.2 q) i x = jup2 M.2.2.2.2 q i x q := by funext j; simp [vf_upd, jup2]
  rw [e1]
  refine jw_set (M' := (M.1, M.2.1, M.2.2.1, M.2.2.2.1, jup2 M.2.2.2.2 q i x)) hs rfl ?_
  intro a z' ha _
  have e3 : jup2 M.2.2.2.2 q i x a = M.2.2.2.2 a := by funext j; simp [jup2, ha]
  unfold jcell jfv
  simp only [e3]
theorem jw_setR {ρ : Nat → Nat} {κ : Nat → ClassId} {M : jM} {q n i r : Nat} (hs : M.1[q]? = some (105, n)) :
    (jw ρ κ M).set q (ρ q, .inl (κ q, n, .inr (.inr (.inr (.inr (va_up (fun i => (M.2.1 q i).map ρ) i (some (ρ r)))))))) = jw ρ κ (M.1, jup2 M.2.1 q i (some r), M.2.2) := by
  have e1 : va_up (fun i => (M.2.1 q i).map ρ) i (some (ρ r)) = fun j => (jup2 M.2.1 q i (some r) q j).map ρ := by funext j; by_cases hj : j = i <;> simp [va_up, jup2, hj]
  rw [e1]
  refine jw_set (M' := (M.1, jup2 M.2.1 q i (some r), M.2.2)) hs rfl ?_
  intro a z' ha _
  have e3 : jup2 M.2.1 q i (some r) a = M.2.1 a := by funext j; simp [jup2, ha]
  unfold jcell jfv
  simp only [e3]

theorem J.lald {q n : Nat} {i : Int32} (d : decode mi.2.1 pc = .ok (.laload, 1)) (hs : M.1[q]? = some (103, n)) (hin : vp_in i n) (kk : J Γ b mi (pc + 1) L (.long (M.2.2.2.1 q i.toNatClampNeg) :: S) M P X) : J Γ b mi pc L (.int i :: .ref q :: S) M P X := by
  intro p e R s m args below meth c A n0 ρ0 Q C F ρ κ ls H locs cells slots hW hL hS h1 h2
  have he := jw_at (ρ := ρ) (κ := κ) hs
  have hK := hW.2.2.2.1 q _ hs (Nat.le_of_ble_eq_true rfl)
  exact va_lald C.1 C.2.1 hK hW.1 q 0 he rfl hin d (kk p e R s m args below meth c A n0 ρ0 Q C F ρ κ ls H locs cells slots hW hL (jS_c (v := .long _) trivial (jS_tl (jS_tl hS))) h1 h2)

theorem J.last {q n : Nat} {i : Int32} {x : Int64} (d : decode mi.2.1 pc = .ok (.lastore, 1)) (hs : M.1[q]? = some (103, n)) (hin : vp_in i n) (kk : J Γ b mi (pc + 1) L S (M.1, M.2.1, M.2.2.1, jup2 M.2.2.2.1 q i.toNatClampNeg x, M.2.2.2.2) P X) : J Γ b mi pc L (.long x :: .int i :: .ref q :: S) M P X := by
  intro p e R s m args below meth c A n0 ρ0 Q C F ρ κ ls H locs cells slots hW hL hS h1 h2
  have he := jw_at (ρ := ρ) (κ := κ) hs
  have hK := hW.2.2.2.1 q _ hs (Nat.le_of_ble_eq_true rfl)
  refine va_last C.1 C.2.1 hK hW.1 hW.2.1 hW.2.2.1 q 0 he rfl hin d (fun H1 locs1 hP1 hD1 hS1 => ?_)
  rw [jw_setL hs] at hP1 hD1
  exact kk p e R s m args below meth c A n0 ρ0 Q C F ρ κ ls H1 locs1 cells slots ⟨hP1, hD1, hS1, hW.2.2.2⟩ hL (jS_tl (jS_tl (jS_tl hS))) h1 h2

theorem J.dald {q n : Nat} {i : Int32} (d : decode mi.2.1 pc = .ok (.daload, 1)) (hs : M.1[q]? = some (104, n)) (hin : vp_in i n) (kk : J Γ b mi (pc + 1) L (.double (M.2.2.2.2 q i.toNatClampNeg) :: S) M P X) : J Γ b mi pc L (.int i :: .ref q :: S) M P X := by
  intro p e R s m args below meth c A n0 ρ0 Q C F ρ κ ls H locs cells slots hW hL hS h1 h2
  have he := jw_at (ρ := ρ) (κ := κ) hs
  have hK := hW.2.2.2.1 q _ hs (Nat.le_of_ble_eq_true rfl)
  exact va_dald C.1 C.2.1 hK hW.1 q 0 he rfl hin d (kk p e R s m args below meth c A n0 ρ0 Q C F ρ κ ls H locs cells slots hW hL (jS_c (v := .double _) trivial (jS_tl (jS_tl hS))) h1 h2)

theorem J.dast {q n : Nat} {i : Int32} {x : UInt64} (d : decode mi.2.1 pc = .ok (.dastore, 1)) (hs : M.1[q]? = some (104, n)) (hin : vp_in i n) (kk : J Γ b mi (pc + 1) L S (M.1, M.2.1, M.2.2.1, M.2.2.2.1, jup2 M.2.2.2.2 q i.toNatClampNeg x) P X) : J Γ b mi pc L (.double x :: .int i :: .ref q :: S) M P X := by
  intro p e R s m args below meth c A n0 ρ0 Q C F ρ κ ls H locs cells slots hW hL hS h1 h2
  have he := jw_at (ρ := ρ) (κ := κ) hs
  have hK := hW.2.2.2.1 q _ hs (Nat.le_of_ble_eq_true rfl)
  refine va_dast C.1 C.2.1 hK hW.1 hW.2.1 hW.2.2.1 q 0 he rfl hin d (fun H1 locs1 hP1 hD1 hS1 => ?_)
  rw [jw_setD hs] at hP1 hD1
  exact kk p e R s m args below meth c A n0 ρ0 Q C F ρ κ ls H1 locs1 cells slots ⟨hP1, hD1, hS1, hW.2.2.2⟩ hL (jS_tl (jS_tl (jS_tl hS))) h1 h2

theorem J.aald {q n r : Nat} {i : Int32} (d : decode mi.2.1 pc = .ok (.aaload, 1)) (hs : M.1[q]? = some (105, n)) (hin : vp_in i n) (hr : M.2.1 q i.toNatClampNeg = some r) (kk : J Γ b mi (pc + 1) L (.ref r :: S) M P X) : J Γ b mi pc L (.int i :: .ref q :: S) M P X := by
  intro p e R s m args below meth c A n0 ρ0 Q C F ρ κ ls H locs cells slots hW hL hS h1 h2
  have he := jw_at (ρ := ρ) (κ := κ) hs
  have hK := hW.2.2.2.1 q _ hs (Nat.le_of_ble_eq_true rfl)
  refine va_aldq C.1 C.2.1 hK hW.1 q 0 he rfl hin d ?_
  simp only [hr]
  exact kk p e R s m args below meth c A n0 ρ0 Q C F ρ κ ls H locs cells slots hW hL (jS_c (v := .ref r) (Or.inl (hW.2.2.2.2.1 q _ r hr)) (jS_tl (jS_tl hS))) h1 h2

theorem J.aast (hcl : jCls) {q n r n6 : Nat} {i : Int32} (d : decode mi.2.1 pc = .ok (.aastore, 1)) (hs : M.1[q]? = some (105, n)) (hin : vp_in i n) (hr : M.1[r]? = some (6, n6)) (kk : J Γ b mi (pc + 1) L S (M.1, jup2 M.2.1 q i.toNatClampNeg (some r), M.2.2) P X) : J Γ b mi pc L (.ref r :: .int i :: .ref q :: S) M P X := by
  intro p e R s m args below meth c A n0 ρ0 Q C F ρ κ ls H locs cells slots hW hL hS h1 h2
  have he := jw_at (ρ := ρ) (κ := κ) hs
  have hK := hW.2.2.2.1 q _ hs (Nat.le_of_ble_eq_true rfl)
  have hv := jw_at (ρ := ρ) (κ := κ) hr
  rw [jcell_obj (show (6 : Nat) < 100 by decide)] at hv
  refine va_astq C.1 C.2.1 hK hW.1 hW.2.1 hW.2.2.1 q 0 r 6 (r := (RX6, TX6, 13)) he rfl hv rfl hin d (fun H1 locs1 hP1 hD1 hS1 => ?_)
  rw [jw_setR hs] at hP1 hD1
  exact kk p e R s m args below meth c A n0 ρ0 Q C F ρ κ ls H1 locs1 cells slots ⟨hP1, hD1, hS1, hW.2.2.2.1, jtau_up hW.2.2.2.2.1 (List.getElem?_eq_some_iff.mp hr).1, hW.2.2.2.2.2⟩ hL (jS_tl (jS_tl (jS_tl hS))) h1 h2

/-- returns -/
theorem J.ret {v : Option Value} (hr : jR mi pc v) (hP : P v M) (hS0 : S = v.toList) : J Γ b mi pc L S M P X := by
  intro p e R s m args below meth c A n0 ρ0 Q C F ρ κ ls H locs cells slots hW hL hS h1 h2
  subst hS0
  exact F.1 M ρ κ ls H locs cells slots pc v hP hW (fun w hw => hS w (by rw [hw]; exact List.mem_singleton.mpr rfl)) (by omega) (by omega) hr
theorem J.iret {x : Int32} (hr : mi.2.2.2 = some .int) (d : decode mi.2.1 pc = .ok (.ireturn, 1)) (hP : P (some (.int x)) M) : J Γ b mi pc L [.int x] M P X := J.ret (v := some (.int x)) (Or.inr (Or.inl ⟨.int, x, hr, rfl, rfl, d⟩)) hP rfl
theorem J.zret {x : Int32} (hr : mi.2.2.2 = some .boolean) (hx : narrow .boolean (.int x) = .int x) (d : decode mi.2.1 pc = .ok (.ireturn, 1)) (hP : P (some (.int x)) M) : J Γ b mi pc L [.int x] M P X := J.ret (v := some (.int x)) (Or.inr (Or.inl ⟨.boolean, x, hr, rfl, hx, d⟩)) hP rfl
theorem J.cret {x : Int32} (hr : mi.2.2.2 = some .char) (hx : narrow .char (.int x) = .int x) (d : decode mi.2.1 pc = .ok (.ireturn, 1)) (hP : P (some (.int x)) M) : J Γ b mi pc L [.int x] M P X := J.ret (v := some (.int x)) (Or.inr (Or.inl ⟨.char, x, hr, rfl, hx, d⟩)) hP rfl
theorem J.vret (hr : mi.2.2.2 = none) (d : decode mi.2.1 pc = .ok (.return_, 1)) (hP : P none M) : J Γ b mi pc L [] M P X := J.ret (v := none) (Or.inl ⟨hr, rfl, d⟩) hP rfl
theorem J.dret {x : UInt64} (hr : mi.2.2.2 = some .double) (d : decode mi.2.1 pc = .ok (.dreturn, 1)) (hP : P (some (.double x)) M) : J Γ b mi pc L [.double x] M P X := J.ret (v := some (.double x)) (Or.inr (Or.inr (Or.inl ⟨x, hr, rfl, d⟩))) hP rfl
theorem J.aret {x : Nat} {ty : String} (hr : mi.2.2.2 = some (.object ty)) (d : decode mi.2.1 pc = .ok (.areturn, 1)) (hP : P (some (.ref x)) M) : J Γ b mi pc L [.ref x] M P X := J.ret (v := some (.ref x)) (Or.inr (Or.inr (Or.inr ⟨ty, .ref x, hr, rfl, Or.inr ⟨x, rfl⟩, d⟩))) hP rfl
/-- less is asked, more room is left -/
theorem J.mono {P' : Option Value → jM → Prop} {X' : String → jM → Prop} {b' : Nat × Nat × Nat} (k : J Γ b mi pc L S M P X) (hP : ∀ v M', P v M' → P' v M') (hX : ∀ E M', X E M' → X' E M') (hb : b.1 ≤ b'.1 ∧ b.2.1 ≤ b'.2.1 ∧ b.2.2 ≤ b'.2.2) : J Γ b' mi pc L S M P' X' := by
  intro p e R s m args below meth c A n0 ρ0 Q C F ρ κ ls H locs cells slots hW hL hS h1 h2
  refine k p e R s m args below meth c A n0 ρ0 Q ?_ ?_ ρ κ ls H locs cells slots hW hL hS (by omega) (by omega)
  · obtain ⟨a1, a2, a3, a4, a5, a6, a7, a8, a9, a10⟩ := C
    exact ⟨a1, a2, a3, a4, a5, a6, a7, by omega, by omega, a10⟩
  · exact ⟨fun M ρ κ ls H locs cells slots pc v h => F.1 M ρ κ ls H locs cells slots pc v (hP v M h), fun M ρ κ ls H locs cells slots pc st E q ce h => F.2.1 M ρ κ ls H locs cells slots pc st E q ce (hX E M h), fun M ρ κ ls H locs cells slots pc st E text names ik is ic h => F.2.2 M ρ κ ls H locs cells slots pc st E text names ik is ic (hX E M h)⟩
/-- the locals may be forgotten -/
theorem J.forget {L' : List (Option Value)} (hl : L'.length = L.length) (h : ∀ (i : Nat) (v : Value), L'[i]? = some (some v) → L[i]? = some (some v)) (k : J Γ b mi pc L' S M P X) : J Γ b mi pc L S M P X := by
  intro p e R s m args below meth c A n0 ρ0 Q C F ρ κ ls H locs cells slots hW hL hS h1 h2
  exact k p e R s m args below meth c A n0 ρ0 Q C F ρ κ ls H locs cells slots hW ⟨hL.1, hL.2.1, hl.trans hL.2.2.1, fun i v hi => hL.2.2.2 i v (h i v hi)⟩ hS h1 h2
/-! contracts -/
def jrm (b : Nat × Nat × Nat) : Room := { frames := b.1 + 16, cells := b.2.1, slots := b.2.2, locals := 40 * b.1 + 400 }
def jws (mi : jMI) : List Cond := Cond.code mi.1 mi.2.1 mi.2.2.1 mi.2.2.2 :: jG
def jInv (Γ : jE) (ρ : Nat → Nat) (κ : Nat → ClassId) (M : jM) (U : State) (H : Heap) : Prop :=
  va_P Γ.2.1 vwCl (jw ρ κ M) H ∧ (∀ q z, M.1[q]? = some z → 100 ≤ z.1 → va_K Γ.2.1 vwCl [(κ q, jty z.1)] U) ∧ (∀ q i r, M.2.1 q i = some r → r < M.1.length)
def jStrs (ρ : Nat → Nat) (U : State) : Prop := ∀ t ∈ jStr, ∃ a, vk_R t.1 t.2.1 t.2.2 a U ∧ (∀ i, jStrNo t.2.2 = some i → ρ (1000000 + i) = a)
def jPre (Γ : jE) (ρ : Nat → Nat) (κ : Nat → ClassId) (M : jM) (sz : Nat) (U : State) : Prop :=
  U.heap.size = sz ∧ jInv Γ ρ κ M U U.heap ∧ va_K Γ.2.1 vwCl [] U ∧ va_D (fun _ => True) (jw ρ κ M) ∧ jX0 Γ (va_A (jw ρ κ M) sz) ρ U U.heap ∧ jNst U ∧ jStrs ρ U
def jPost (Γ : jE) (ρ : Nat → Nat) (κ : Nat → ClassId) (M : jM) (sz : Nat) (M' : jM) (U t : State) : Prop :=
  ∃ ρ' κ', M.1.length ≤ M'.1.length ∧ (∀ k, k < M.1.length ∨ 1000000 ≤ k → ρ' k = ρ k) ∧ jInv Γ ρ' κ' M' U t.heap ∧ va_D (va_A (jw ρ κ M) sz) (jw ρ' κ' M')
def jQ (Γ : jE) (ρ : Nat → Nat) (κ : Nat → ClassId) (M : jM) (sz : Nat) (P : Option Value → jM → Prop) : Array Value → State → Outcome → State → Prop := fun _ st o t =>
  (∃ v M' ρ' κ', o = .returned (v.map (jre ρ')) ∧ P v M' ∧ (∀ w, v = some w → jok M'.1.length w) ∧ M.1.length ≤ M'.1.length ∧ (∀ k, k < M.1.length ∨ 1000000 ≤ k → ρ' k = ρ k) ∧ jInv Γ ρ' κ' M' t t.heap ∧ va_D (va_A (jw ρ κ M) sz) (jw ρ' κ' M')) ∧ va_F (va_A (jw ρ κ M) sz) st t
def jXC (Γ : jE) (ρ : Nat → Nat) (κ : Nat → ClassId) (M : jM) (sz : Nat) (X : String → jM → Prop) : String → State → State → Prop := fun E st t =>
  (∃ M' ρ' κ', X E M' ∧ M.1.length ≤ M'.1.length ∧ (∀ k, k < M.1.length ∨ 1000000 ≤ k → ρ' k = ρ k) ∧ jInv Γ ρ' κ' M' t t.heap ∧ va_D (va_A (jw ρ κ M) sz) (jw ρ' κ' M')) ∧ va_F (va_A (jw ρ κ M) sz) st t
/-- a contract: the method, called with these arguments over this memory, returns with P or throws with X -/
def Con (Γ : jE) (b : Nat × Nat × Nat) (mi : jMI) (av : List Value) (M : jM) (P : Option Value → jM → Prop) (X : String → jM → Prop) : Prop :=
  ∀ (ρ : Nat → Nat) (κ : Nat → ClassId) (sz : Nat), (∀ v ∈ av, jok M.1.length v) → vx_Met Γ.1 mi.1 (jws mi) (jrm b) (va_Pc (av.map (jre ρ)) (jPre Γ ρ κ M sz)) (jQ Γ ρ κ M sz P) (jXC Γ ρ κ M sz X) b.2.1 b.2.2 (va_A (jw ρ κ M) sz)
theorem jInv.moved {ρ : Nat → Nat} {κ : Nat → ClassId} {U U' : State} {H : Heap} (hv : U.vm.Alike U'.vm) (h : jInv Γ ρ κ M U H) : jInv Γ ρ κ M U' H := ⟨h.1, fun q z hq hz => va_K.moved hv (h.2.1 q z hq hz), h.2.2⟩
theorem jPre_blind {ρ : Nat → Nat} {κ : Nat → ClassId} {sz : Nat} {av : List Value} : FrameBlind (va_Pc av (jPre Γ ρ κ M sz)) := by
  intro a U g mk h
  obtain ⟨h0, h1, h2, h3, h4, h5, h7, h6⟩ := h
  exact ⟨h0, h1, h2, va_K.moved (u := U) (U := U.calling g mk a) (Vm.Alike.refl U.vm) h3, h4, ⟨h5.1.moved (u := U) (U := U.calling g mk a) (Vm.Alike.refl U.vm), h5.2.1.moved (u := U) (U := U.calling g mk a) (Vm.Alike.refl U.vm), h5.2.2.1, h5.2.2.2.moved (u := U) (U := U.calling g mk a) (Vm.Alike.refl U.vm)⟩, h7, fun t ht => by obtain ⟨a, ha, hb⟩ := h6 t ht; exact ⟨a, vk_R.same rfl ha, hb⟩⟩

def jent (n : Nat) (av : List Value) : List (Option Value) := av.map some ++ List.replicate (n - av.length) none
theorem jargs_mem : ∀ (vs : List Value) (i k : Nat) (v : Value), (∀ w ∈ vs, w.category = 1) → vs[k]? = some v → (i + k, v) ∈ lv_args i vs
  | [], i, k, v, _, h => by cases k <;> cases h
  | w :: ws, i, 0, v, _, h => by cases h; exact List.mem_cons_self
  | w :: ws, i, k + 1, v, hc, h => by
    have h1 : w.category = 1 := hc w List.mem_cons_self
    have h2 := jargs_mem ws (i + 1) k v (fun x hx => hc x (List.mem_cons_of_mem _ hx)) (by simpa using h)
    unfold lv_args
    rw [if_neg (by rw [h1]; decide)]
    refine List.mem_cons_of_mem _ ?_
    rwa [show i + (k + 1) = i + 1 + k by omega]
theorem jsl_len : ∀ (vs : List Value), (∀ w ∈ vs, w.category = 1) → (lg_sl vs).length = vs.length
  | [], _ => rfl
  | w :: ws, hc => by
    have h1 : w.category = 1 := hc w List.mem_cons_self
    have h2 := jsl_len ws (fun x hx => hc x (List.mem_cons_of_mem _ hx))
    unfold lg_sl at h2 ⊢
    rw [List.flatMap_cons, List.length_append, h2, if_neg (by rw [h1]; decide)]
    simp [Nat.add_comm]
theorem jent_L {ρ : Nat → Nat} {n nL : Nat} {av : List Value} {ls : Array Slot} (hc : ∀ w ∈ av, w.category = 1) (hn : av.length ≤ nL) (hok : ∀ v ∈ av, jok n v) (h : lv_has ls nL (lv_args 0 (av.map (jre ρ)))) : jL ρ n nL (jent nL av) ls := by
  refine ⟨h.2.1, h.1, by unfold jent; simp; omega, fun i v hi => ?_⟩
  unfold jent at hi
  rw [List.getElem?_append] at hi
  split at hi
  · rw [List.getElem?_map] at hi
    cases ha : av[i]? with
    | none => rw [ha] at hi; cases hi
    | some w =>
      rw [ha] at hi
      cases hi
      refine ⟨?_, hok v (List.mem_of_getElem? ha)⟩
      have h1 := jargs_mem (av.map (jre ρ)) 0 i (jre ρ v) (by intro w hw; obtain ⟨x, hx, rfl⟩ := List.mem_map.mp hw; rw [jre_cat]; exact hc x hx) (by rw [List.getElem?_map, ha]; rfl)
      rw [Nat.zero_add] at h1
      exact h.2.2 _ h1
  · rw [List.getElem?_replicate] at hi
    split at hi <;> cases hi
theorem jPost_of {ρ ρ' : Nat → Nat} {κ κ' : Nat → ClassId} {M' : jM} {s t : State} {H : Heap} {locs : List Loc} (hW : jW Γ s (va_A (jw ρ κ M) s.heap.size) M.1.length ρ M' ρ' κ' H locs) (ht : t.heap = H) (hvm : s.vm.Alike t.vm) :
    (M.1.length ≤ M'.1.length ∧ (∀ k, k < M.1.length ∨ 1000000 ≤ k → ρ' k = ρ k) ∧ jInv Γ ρ' κ' M' t t.heap ∧ va_D (va_A (jw ρ κ M) s.heap.size) (jw ρ' κ' M')) ∧ va_F (va_A (jw ρ κ M) s.heap.size) s t := by
  subst ht
  exact ⟨⟨hW.2.2.2.2.2.1, hW.2.2.2.2.2.2, ⟨hW.1, fun q z hq hz => va_K.moved hvm (hW.2.2.2.1 q z hq hz), hW.2.2.2.2.1⟩, hW.2.1⟩, hW.2.2.1.1, hW.2.2.1.2.1⟩
set_option maxHeartbeats 1000000 in
/-- a contract out of a walk from the entry -/
theorem Con.ofJ {av : List Value} (hpl : plainName mi.1.cls = true) (hc : ∀ w ∈ av, w.category = 1) (hn : av.length ≤ mi.2.2.1) (k : J Γ b mi 0 (jent mi.2.2.1 av) [] M P X) (hl : Γ.1.stackTraces = false) : Con Γ b mi av M P X := by
  intro ρ κ sz hok
  refine vx_ofW (cc := mi.2.1) (maxL := mi.2.2.1) (ret := mi.2.2.2) hpl rfl ?_
  intro p e s m args below meth c s₁ B hml ht hv
  obtain ⟨rfl, hsz, hI, hK, hD, hX, hnst, hstr⟩ := hv
  subst hsz
  have hl0 := lv_entry (av.map (jre ρ)) (n := mi.2.2.1) (by rw [jsl_len _ (by intro w hw; obtain ⟨x, hx, rfl⟩ := List.mem_map.mp hw; rw [jre_cat]; exact hc x hx), List.length_map]; exact hn)
  rw [lg_entry_eq]
  generalize (lg_sl (av.map (jre ρ)) ++ List.replicate (mi.2.2.1 - (lg_sl (av.map (jre ρ))).length) Slot.unset).toArray = ls at hl0 ⊢
  have hts := atoms_spec (ws := jws mi) B.pre
  have hnm := (name_of_methodNamed B.named B.method).1
  refine k p e (jrm b) s m _ below meth c (va_A (jw ρ κ M) s.heap.size) M.1.length ρ _ ⟨B.exec, B.bytes, hml, B.returns, B.notSynchronized, findClass_of_methodNamed B.named, fun w hw => hts w (List.mem_cons_of_mem _ hw), Nat.le_refl _, Nat.le_refl _, hK, fun q h => Or.inr h, hl, hX, fun h => hnm.trans h, hnst, hstr⟩ ⟨?_, ?_, ?_⟩ ρ κ ls s.heap [] 0 0 ⟨hI.1, hD.self, va_S.rf, hI.2.1, hI.2.2, Nat.le_refl _, fun _ _ => rfl⟩ (jent_L hc hn hok hl0) (fun v hv => absurd hv List.not_mem_nil) (Nat.le_of_eq (Nat.zero_add _)) (Nat.le_of_eq (Nat.zero_add _))
  · intro M' ρ' κ' ls' H' locs' cells' slots' pc' v hP hW hvok hc1 hs1 hr
    refine vx_ret (W.widen (k := b.2.1) (n := b.2.2) hc1 hs1 ?_)
    have hq : ∀ (o : Option Value), o = v.map (jre ρ') → ∀ t : State, t.heap = H' → s.WarmedH t.vm → jQ Γ ρ κ M s.heap.size P (av.map (jre ρ)).toArray s (.returned o) t := fun o ho t htt hww => by
      obtain ⟨⟨q1, q2, q3, q4⟩, q5⟩ := jPost_of hW htt hww.alike
      exact ⟨⟨v, M', ρ', κ', by rw [ho], hP, hvok, q1, q2, q3, q4⟩, q5⟩
    have hf : ∀ q ∈ locs', va_A (jw ρ κ M) s.heap.size q.base := hW.2.2.1.2.2
    rcases hr with ⟨r1, rfl, r3⟩ | ⟨ty, x, r1, rfl, r2, r3⟩ | ⟨x, r1, rfl, r3⟩ | ⟨ty, w, r1, rfl, r2, r3⟩
    · exact W.vret B.exec B.bytes (B.returns.trans r1) (hq none rfl) hf r3
    · exact W.zret B.exec B.bytes (B.returns.trans r1) r2 (hq (some (.int x)) rfl) hf r3
    · exact W.dret B.exec B.bytes (B.returns.trans r1) (hq (some (.double x)) rfl) hf r3 B.notSynchronized
    · refine W.aret (v := jre ρ' w) B.exec B.bytes (B.returns.trans r1) (Or.inl ⟨ty, rfl⟩) ?_ (hq (some (jre ρ' w)) rfl) hf r3
      rcases r2 with rfl | ⟨k, rfl⟩
      · exact Or.inl rfl
      · exact Or.inr ⟨_, rfl⟩
  · intro M' ρ' κ' ls' H' locs' cells' slots' pc' st E q ce hX' hW hc1 hs1 hq1 hq2 hq3
    refine vx_out (fun x hx => absurd (ht x hx) id) B.notSynchronized hq1 hq2 hq3 ?_ hW.2.2.1.2.2 hc1 hs1
    intro t htt hww
    obtain ⟨⟨q1, q2, q3, q4⟩, q5⟩ := jPost_of hW htt hww
    exact ⟨⟨M', ρ', κ', hX', q1, q2, q3, q4⟩, q5⟩
  · intro M' ρ' κ' ls' H' locs' cells' slots' pc' st E text names ik is ic hX' hW hc1 hs1 hls hst hT hdec
    obtain ⟨t1, t2, t3, t4, t5, ⟨sa, t6⟩, t7, t8⟩ := hT
    have hown : s.vm.findClass mi.1.cls = some m.cls := findClass_of_methodNamed B.named
    have hb1 : names.length + 3 < (headSpec (jws mi) (jrm b)).room.frames := by show names.length + 3 < b.1 + 16; omega
    have hb2 : (st.map fun v => v.category).sum + (13 * (names.length + 1) + 43) ≤ (headSpec (jws mi) (jrm b)).room.locals := by
      show _ ≤ 40 * b.1 + 400
      have : 13 * (names.length + 1) ≤ 39 := by omega
      omega
    have hx : ∀ t : State, s.vm.Alike t.vm → H'.size ≤ t.heap.size → (∀ q : Nat, q < H'.size → t.heap[q]? = H'[q]?) → jXC Γ ρ κ M s.heap.size X E s t := fun t hww hz hk => by
      obtain ⟨w1, w2, w3, w4, w5, w6, w7⟩ := hW
      have hP2 : va_P Γ.2.1 vwCl (jw ρ' κ' M') t.heap := w1.kept fun k q h => hk _ (vx_lt w1 h)
      exact ⟨⟨M', ρ', κ', hX', w6, w7, ⟨hP2, fun q z hq hz => va_K.moved hww (w4 q z hq hz), w5⟩, w2⟩, Nat.le_trans w3.1 hz, fun q h1 h2 => by rw [hk q (Nat.lt_of_lt_of_le h1 w3.1)]; exact w3.2.1 q h1 h2⟩
    rcases hdec with ⟨e1, e2, e3, e4, e5⟩ | ⟨e1, e2, e3, e4, e5⟩
    · exact vx_throwS B.exec B.bytes hl hown t1 t2 t4 t5 t6 t7 t8 hX.1 hX.2.1 hW.2.2.1 (hls.trans hml.symm) e1 e2 e3 e4 e5 (fun x hx => absurd (ht x hx) id) hb1 hb2 hc1 hs1 B.notSynchronized hx hW.2.2.1.2.2 hc1 hs1
    · exact vx_throwSW B.exec B.bytes hl hown t1 t2 t4 t5 t6 t7 t8 hX.1 hX.2.1 hW.2.2.1 (hls.trans hml.symm) e1 e2 e3 e4 e5 (fun x hx => absurd (ht x hx) id) hb1 hb2 hc1 hs1 B.notSynchronized hx hW.2.2.1.2.2 hc1 hs1

theorem jX0_call {A B : Nat → Prop} {ρ ρ0 : Nat → Nat} {s U : State} {H : Heap} {locs : List Loc} (h : jX0 Γ A ρ0 s s.heap) (hS : va_S A s.heap H locs) (hAB : ∀ q, B q → A q) (hv : s.vm.Alike U.vm) (hρ : ∀ k, 1000000 ≤ k → ρ k = ρ0 k) : jX0 Γ B ρ U H := by
  refine ⟨((h.1.kept hS.2.1).narrow hAB).moved hv, ((h.2.1.kept hS.2.1).narrow hAB).moved hv, fun L xs hl => ?_, ?_⟩
  rotate_left
  · have h9 := ((h.2.2.2.kept hS.2.1).narrow hAB).moved hv
    unfold jX1 at h9 ⊢
    simp only [hρ _ (Nat.le_add_right _ _)]
    exact h9
  obtain ⟨h1, h2, h3⟩ := h.2.2.1 L xs hl
  rw [hρ 2000000 (Nat.le_of_ble_eq_true rfl)]
  exact ⟨(h1.kept (hS.2.1 _ h2 h3)).moved hv, Nat.lt_of_lt_of_le h2 hS.1, fun q => h3 (hAB _ q)⟩
theorem jA_sub {A : Nat → Prop} {n0 : Nat} {ρ0 ρ : Nat → Nat} {κ : Nat → ClassId} {s : State} {H : Heap} {locs : List Loc} (hW : jW Γ s A n0 ρ0 M ρ κ H locs) (hA : ∀ q, s.heap.size ≤ q → A q) : ∀ q, va_A (jw ρ κ M) H.size q → A q := by
  intro q h
  rcases h with ⟨k, e, h⟩ | h
  · exact hW.2.1.2 k _ h
  · exact hA q (Nat.le_trans hW.2.2.1.1 h)
theorem jPre_call {d : Nat} {p : Program} {R : Room} {s : State} {m : MethodId} {args : Array Value} {meth : Method} {c : Code} {A : Nat → Prop} {n0 : Nat} {ρ0 ρ : Nat → Nat} {κ : Nat → ClassId} {H : Heap} {locs : List Loc} (C : jC Γ d mi p R s m args meth c A ρ0) (hW : jW Γ s A n0 ρ0 M ρ κ H locs) :
    ∀ U : State, U.heap = H → s.WarmedH U.vm → jPre Γ ρ κ M H.size U := by
  intro U hU hw
  obtain ⟨-, -, -, -, -, -, -, -, -, cK, cA, -, cX, -, cN, cS⟩ := C
  have hρ : ∀ k, 1000000 ≤ k → ρ k = ρ0 k := fun k hk => hW.2.2.2.2.2.2 k (Or.inr hk)
  refine ⟨by rw [hU], ⟨by rw [hU]; exact hW.1, fun q z hq hz => va_K.moved hw.alike (hW.2.2.2.1 q z hq hz), hW.2.2.2.2.1⟩, va_K.moved hw.alike cK, hW.2.1.weaken fun _ _ _ _ => trivial, ?_, ⟨fun own i y h hm => (cN.1 own i y h hm).warmM hw, fun C T hm => (cN.2.1 C T hm).warmC hw, cN.2.2.1.moved hw.alike, cN.2.2.2.moved hw.alike⟩, fun t ht => ?_⟩
  · rw [hU]
    exact jX0_call cX hW.2.2.1 (jA_sub hW cA) hw.alike hρ
  · obtain ⟨a, h1, h2⟩ := cS t ht
    exact ⟨a, h1.warm hw, fun i hi => by rw [hρ _ (Nat.le_add_right _ _)]; exact h2 i hi⟩
theorem vx_toMet {l : Launch} {y : MethodName} {ws : List Cond} {rm : Room} {Pc : Array Value → State → Prop} {Qc : Array Value → State → Outcome → State → Prop} {XC : String → State → State → Prop} {mc ms : Nat} {free : Addr → Prop} (h : vx_Met l y ws rm Pc Qc XC mc ms free) (hX : ∀ E st t, ¬ XC E st t) : Met l y ws rm Pc Qc mc ms free := by
  intro p e a1 a2 a3 s m args below b1 b2 b3 b4
  obtain ⟨n, o, q1, q2, q3, q4⟩ := h p e a1 a2 a3 s m args below b1 b2 b3 b4
  refine ⟨n, o, q1, q2, q3, ?_⟩
  rcases q4 with q4 | ⟨q, rfl, E, ce, L, hx, -⟩
  · exact q4
  · exact absurd hx (hX _ _ _)
theorem vx_ofRun {p : Program} {l : Launch} {e : Env} {R : Room} {s : State} {m : MethodId} {args : Array Value} {below : List Frame} {meth : Method} {c : Code} {H : Heap} {locs : List Loc} {cells slots mc ms : Nat} {g : JFrame} {rest : List Value} {Qa : State → Outcome → State → Prop} {XC : String → State → State → Prop} {free : Addr → Prop} (h : va_Run p l e R s m args below meth c H locs cells slots mc ms g rest Qa free) : vx_Run p l e R s m args below meth c H locs cells slots mc ms g rest Qa XC free := fun T hT X => Or.inl (h T hT X)
theorem jre_map {ρ ρ' : Nat → Nat} {n : Nat} {S : List Value} (h : ∀ k, k < n ∨ 1000000 ≤ k → ρ' k = ρ k) (hS : ∀ v ∈ S, jok n v) : S.map (jre ρ') = S.map (jre ρ) := List.map_congr_left fun v hv => jre_ext h (hS v hv)
set_option maxHeartbeats 1000000 in
/-- behind a call: what the callee's contract says of the memory holds of ours -/
theorem jcont {p : Program} {e : Env} {R : Room} {s : State} {m : MethodId} {args : Array Value} {below : List Frame} {meth : Method} {c : Code} {A : Nat → Prop} {n0 : Nat} {ρ0 ρ : Nat → Nat} {κ : Nat → ClassId} {H : Heap} {locs : List Loc} {cells slots : Nat} {Q : State → Prop} {ls : Array Slot} {st0 : List Value} {aa : Array Value}
    {b' : Nat × Nat × Nat} {P' : Option Value → jM → Prop} {X' : String → jM → Prop} (C : jC Γ b.1 mi p R s m args meth c A ρ0) (hW : jW Γ s A n0 ρ0 M ρ κ H locs) (hL : jL ρ M.1.length mi.2.2.1 L ls) (hS : ∀ v ∈ S, jok M.1.length v) (h1 : cells + b.2.1 ≤ R.cells) (h2 : slots + b.2.2 ≤ R.slots) (hb : b'.2.1 ≤ b.2.1 ∧ b'.2.2 ≤ b.2.2)
    (hr : vx_Run p Γ.1 e R s m args below meth c H locs cells slots b'.2.1 b'.2.2 (F0 m pc ls st0) (S.map (jre ρ)) (jQ Γ ρ κ M H.size P' aa) (jXC Γ ρ κ M H.size X') (va_A (jw ρ κ M) H.size))
    (kx : ∀ (M' : jM) (ρ' : Nat → Nat) (κ' : Nat → ClassId) (H1 : Heap) (locs1 : List Loc) (E : String) (q : Addr) (ce : Cell), X' E M' → jW Γ s A n0 ρ0 M' ρ' κ' H1 locs1 → jL ρ' M'.1.length mi.2.2.1 L ls → H1[q]? = some ce → ce.vm = .none → s.vm.findClass E = some ce.cls → vx_W p Γ.1 e R s m args below meth c H1 locs1 (cells + b'.2.1) (slots + b'.2.2) Q (F0 m pc ls (S.map (jre ρ'))) q)
    (kk : ∀ (v : Option Value) (M' : jM) (ρ' : Nat → Nat) (κ' : Nat → ClassId) (H1 : Heap) (locs1 : List Loc), P' v M' → jW Γ s A n0 ρ0 M' ρ' κ' H1 locs1 → jL ρ' M'.1.length mi.2.2.1 L ls → (∀ w ∈ v.toList ++ S, jok M'.1.length w) → W p Γ.1 e R s m args below meth c H1 locs1 (cells + b'.2.1) (slots + b'.2.2) Q (F0 m (pc + 3) ls ((v.toList ++ S).map (jre ρ')))) :
    W p Γ.1 e R s m args below meth c H locs cells slots Q (F0 m pc ls st0) := by
  intro T hT X9
  have cA := C.2.2.2.2.2.2.2.2.2.2.1
  have hsub := jA_sub hW cA
  have hmk : ∀ (st₀ t T' : State) (L9 : List Loc) (M' : jM) (ρ' : Nat → Nat) (κ' : Nat → ClassId), st₀.heap = H → T'.heap = t.heap → s.vm.Alike t.vm → (∀ q ∈ L9, va_A (jw ρ κ M) H.size q.base) → M.1.length ≤ M'.1.length → (∀ k, k < M.1.length ∨ 1000000 ≤ k → ρ' k = ρ k) → jInv Γ ρ' κ' M' t t.heap → va_D (va_A (jw ρ κ M) H.size) (jw ρ' κ' M') → va_F (va_A (jw ρ κ M) H.size) st₀ t → jW Γ s A n0 ρ0 M' ρ' κ' T'.heap (locs ++ L9) := by
    intro st₀ t T' L9 M' ρ' κ' g0 g1 gv gL gn gρ gI gD gF
    rw [g1]
    unfold va_F at gF
    rw [g0] at gF
    have hS3 := hW.2.2.1
    refine ⟨gI.1, gD.weaken fun k q _ h => hsub _ h, ⟨Nat.le_trans hS3.1 gF.1, fun q u1 u2 => ?_, fun q hq => ?_⟩, fun q z u1 u2 => va_K.moved gv.symm (gI.2.1 q z u1 u2), gI.2.2, Nat.le_trans hW.2.2.2.2.2.1 gn, fun k hk => ?_⟩
    · rw [gF.2 q (Nat.lt_of_lt_of_le u1 hS3.1) (fun z => u2 (hsub _ z))]; exact hS3.2.1 q u1 u2
    · rcases List.mem_append.mp hq with h | h
      · exact hS3.2.2 q h
      · exact hsub _ (gL q h)
    · rw [gρ k (hk.imp (fun z => Nat.lt_of_lt_of_le z hW.2.2.2.2.2.1) id)]; exact hW.2.2.2.2.2.2 k hk
  have hjL : ∀ (M' : jM) (ρ' : Nat → Nat), M.1.length ≤ M'.1.length → (∀ k, k < M.1.length ∨ 1000000 ≤ k → ρ' k = ρ k) → jL ρ' M'.1.length mi.2.2.1 L ls := fun M' ρ' gn gρ =>
    ⟨hL.1, hL.2.1, hL.2.2.1, fun i v hi => by obtain ⟨u1, u2⟩ := hL.2.2.2 i v hi; exact ⟨by rw [jre_ext gρ u2]; exact u1, jok_mono gn u2⟩⟩
  rcases hr T hT X9 with ⟨v, st₀, t, T', L9, g0, X8, gL, g1, g2, ⟨⟨v', M', ρ', κ', gv, gP, gok, gn, gρ, gI, gD⟩, gF⟩, st⟩ | ⟨q, st₀, t, T', L9, E, ce, g0, X8, gL, g1, g2, ⟨⟨M', ρ', κ', gX, gn, gρ, gI, gD⟩, gF⟩, g3, g4, g5, st⟩
  · have gva : s.vm.Alike t.vm := by rw [← g2]; exact X8.warmed.alike
    have hv : v = v'.map (jre ρ') := by cases gv; rfl
    have hst : v.toList ++ S.map (jre ρ) = (v'.toList ++ S).map (jre ρ') := by
      rw [hv, List.map_append, jre_map gρ hS]
      cases v' <;> rfl
    rw [hst] at st
    obtain ⟨t2, a1, b1⟩ := kk v' M' ρ' κ' T'.heap (locs ++ L9) gP (hmk st₀ t T' L9 M' ρ' κ' g0 g1 gva gL gn gρ gI gD gF) (hjL M' ρ' gn gρ)
      (fun w hw => by
        rcases List.mem_append.mp hw with h | h
        · exact gok w (by cases v' <;> simp_all)
        · exact jok_mono gn (hS w h)) T' rfl X8
    exact ⟨t2, st t2 a1, b1⟩
  · have gva : s.vm.Alike t.vm := by rw [← g2]; exact X8.warmed.alike
    rw [← jre_map gρ hS] at st
    obtain ⟨t2, a1, b1⟩ := kx M' ρ' κ' T'.heap (locs ++ L9) E q ce gX (hmk st₀ t T' L9 M' ρ' κ' g0 g1 gva gL gn gρ gI gD gF) (hjL M' ρ' gn gρ) (by rw [g1]; exact g3) g4 g5 T' rfl X8
    exact ⟨t2, st.trans a1, b1⟩
/-- what is known of a method that is called: its code, its class, how many arguments it takes -/
def jME (mi' : jMI) (n : Nat) : Prop := Cond.code mi'.1 mi'.2.1 mi'.2.2.1 mi'.2.2.2 ∈ jG ∧ Cond.initialized mi'.1.cls ∈ jG ∧ (mi'.1.cls ≠ "java/lang/invoke/MethodHandle" ∧ mi'.1.cls ≠ "java/lang/invoke/VarHandle" ∧ (parseMethodDescriptor mi'.1.desc).map (fun d => d.parameters.length) = some n) ∧ mi'.2.2.1 ≤ 21
def jVE (mi' : jMI) (n : Nat) : Prop := jME mi' n ∧ Cond.instanceMethod mi'.1 ∈ jG ∧ Cond.selects mi'.1.cls mi'.1 mi'.1 ∈ jG
def jSE (mi' : jMI) (n : Nat) : Prop := jME mi' n ∧ Cond.static mi'.1 ∈ jG
theorem jws_good {mi' : jMI} {n : Nat} (h : jME mi' n) : GoodIn jG (jws mi') := by
  intro w hw
  have h1 : w ∈ jG := (List.mem_cons.mp hw).elim (fun e => e ▸ h.1) id
  exact ⟨h1, jG_good h1⟩
theorem jgood {w : Cond} (h : w ∈ jG) : w ∈ jG ∧ ((w.onTables && w.keeps) = true ∨ ∃ ty, w = .arrayClass ty) := ⟨h, jG_good h⟩
theorem jroom {d : Nat} {mi' : jMI} {R : Room} {b' : Nat × Nat × Nat} (hb : b'.1 + 1 ≤ d) (hm : mi'.2.2.1 ≤ 21) (h1 : d + 16 ≤ R.frames) (h2 : 40 * d + 400 ≤ R.locals) : (jrm b').frames + 1 ≤ R.frames ∧ 8 + (mi'.2.2.1 + 11) + (jrm b').locals ≤ R.locals := by
  show b'.1 + 16 + 1 ≤ R.frames ∧ 8 + (mi'.2.2.1 + 11) + (40 * b'.1 + 400) ≤ R.locals
  omega
theorem jcatS {ρ : Nat → Nat} {S : List Value} {k : Nat} (h : (S.map fun v => v.category).sum ≤ k) : ((S.map (jre ρ)).map fun v => v.category).sum ≤ k := by
  rw [List.map_map]
  have : (S.map ((fun v => v.category) ∘ jre ρ)) = S.map fun v => v.category := List.map_congr_left fun v _ => jre_cat ρ v
  rw [this]; exact h
theorem jok_app {n : Nat} {A S : List Value} (h : ∀ v ∈ A ++ S, jok n v) : (∀ v ∈ A, jok n v) ∧ ∀ v ∈ S, jok n v := ⟨fun v hv => h v (List.mem_append_left _ hv), fun v hv => h v (List.mem_append_right _ hv)⟩

def jIE (mi' : jMI) (n : Nat) : Prop := jME mi' n ∧ Cond.instanceMethod mi'.1 ∈ jG ∧ mi'.1.name = "<init>" ∧ mi'.2.2.2 = none

set_option maxHeartbeats 1000000 in
theorem J.callV {q idx : Nat} {b' : Nat × Nat × Nat} {mi' : jMI} (As : List Value) {P' : Option Value → jM → Prop} {X' : String → jM → Prop} (d : decode mi.2.1 pc = .ok (.invokevirtual idx, 3)) (hl : Cond.methodLink mi.1.cls idx mi'.1 ∈ jG) (hs : jVE mi' As.length) {ci n : Nat} (hq : M.1[q]? = some (ci, n)) (hqc : (vwCl[ci]?).map (fun z => z.1) = some mi'.1.cls) (hb : b'.1 + 1 ≤ b.1 ∧ b'.2.1 ≤ b.2.1 ∧ b'.2.2 ≤ b.2.2) (hc : Con Γ b' mi' (.ref q :: As) M P' X') (hX : ∀ E M', X' E M' → X E M') (hcat : (S.map fun v => v.category).sum ≤ 8)
    (k : ∀ v M', P' v M' → J Γ (b.1, b.2.1 - b'.2.1, b.2.2 - b'.2.2) mi (pc + 3) L (v.toList ++ S) M' P X) : J Γ b mi pc L (As.reverse ++ .ref q :: S) M P X := by
  intro p e R s m args below meth c A n0 ρ0 Q C F ρ κ ls H locs cells slots hW hL hS h1 h2
  have hS1 := jok_app hS
  have hok : ∀ v ∈ As, jok M.1.length v := fun v hv => hS1.1 v (List.mem_reverse.mpr hv)
  have hpre := jPre_call C hW
  have hokq : ∀ v ∈ Value.ref q :: As, jok M.1.length v := List.forall_mem_cons.mpr ⟨hS1.2 _ List.mem_cons_self, hok⟩
  have hS2 : ∀ v ∈ S, jok M.1.length v := jS_tl hS1.2
  rw [List.map_append, List.map_reverse]
  have hM := hc ρ κ H.size hokq
  have hrm := jroom (R := R) hb.1 hs.1.2.2.2 C.2.2.2.2.2.2.2.1 C.2.2.2.2.2.2.2.2.1
  have fx : CallFix p m c mi.2.1 mi.2.2.1 s args jG mi.1.cls := ⟨C.1, C.2.1, C.2.2.1, C.2.2.2.2.2.1, C.2.2.2.2.2.2.1⟩
  have hg : GoodIn jG (wsV mi.1.cls idx mi'.1.cls mi'.1 (jws mi')) := by
    intro w hw
    rcases List.mem_append.mp hw with h | h
    · simp only [List.mem_cons, List.not_mem_nil, or_false] at h
      rcases h with rfl | rfl | rfl | rfl
      · exact jgood hl
      · exact jgood hs.2.1
      · exact jgood hs.2.2
      · exact jgood hs.1.2.1
    · exact jws_good hs.1 w h
  obtain ⟨q', hq', hqn⟩ := Option.map_eq_some_iff.mp hqc
  have he := jw_at (ρ := ρ) (κ := κ) hq
  have hci : ci < 100 := Nat.lt_of_lt_of_le (List.getElem?_eq_some_iff.mp hq').1 (Nat.le_of_ble_eq_true rfl)
  rw [jcell_obj hci] at he
  have hrv := va_recv C.2.2.2.2.2.2.2.2.2.1 hW.1 hq' he
  rw [hqn] at hrv
  exact jcont C hW hL hS2 h1 h2 hb.2 (vx_runV (As := As.map (jre ρ)) fx hM (cwV As.length C.2.2.2.2.2.2.1 hg rfl rfl rfl ⟨rfl, hs.1.2.2.1⟩ hrm) ⟨jPre_blind, hrv, fun U hU hw => ⟨rfl, hpre U hU hw⟩⟩ rfl (List.length_map _) hL.2.1 rfl (lv_room (jcatS hcat)) d ⟨by omega, by omega⟩)
    (fun M' ρ' κ' H1 locs1 E q9 ce gX gW gL g1 g2 g3 => F.2.1 M' ρ' κ' ls H1 locs1 _ _ pc _ E q9 ce (hX E M' gX) gW (by omega) (by omega) g1 g2 g3) (fun v M' ρ' κ' H1 locs1 gP gW gL gok => k v M' gP p e R s m args below meth c A n0 ρ0 Q C F ρ' κ' ls H1 locs1 _ _ gW gL gok (by show _ + _ + (_ - _) ≤ _; omega) (by show _ + _ + (_ - _) ≤ _; omega))

set_option maxHeartbeats 1000000 in
theorem J.callVN {q idx : Nat} {host : String} {b' : Nat × Nat × Nat} {mi' : jMI} (As : List Value) {P' : Option Value → jM → Prop} {X' : String → jM → Prop} (d : decode mi.2.1 pc = .ok (.invokevirtual idx, 3)) (hl : Cond.methodLinkNest mi.1.cls idx mi'.1 host ∈ lw_tbl) (hs : jVE mi' As.length) {ci n : Nat} (hq : M.1[q]? = some (ci, n)) (hqc : (vwCl[ci]?).map (fun z => z.1) = some mi'.1.cls) (hb : b'.1 + 1 ≤ b.1 ∧ b'.2.1 ≤ b.2.1 ∧ b'.2.2 ≤ b.2.2) (hc : Con Γ b' mi' (.ref q :: As) M P' X') (hX0 : ∀ E M', ¬ X' E M') (hX : ∀ E M', X' E M' → X E M') (hcat : (S.map fun v => v.category).sum ≤ 8)
    (k : ∀ v M', P' v M' → J Γ (b.1, b.2.1 - b'.2.1, b.2.2 - b'.2.2) mi (pc + 3) L (v.toList ++ S) M' P X) : J Γ b mi pc L (As.reverse ++ .ref q :: S) M P X := by
  intro p e R s m args below meth c A n0 ρ0 Q C F ρ κ ls H locs cells slots hW hL hS h1 h2
  have hS1 := jok_app hS
  have hok : ∀ v ∈ As, jok M.1.length v := fun v hv => hS1.1 v (List.mem_reverse.mpr hv)
  have hpre := jPre_call C hW
  have hokq : ∀ v ∈ Value.ref q :: As, jok M.1.length v := List.forall_mem_cons.mpr ⟨hS1.2 _ List.mem_cons_self, hok⟩
  have hS2 : ∀ v ∈ S, jok M.1.length v := jS_tl hS1.2
  rw [List.map_append, List.map_reverse]
  have hM := hc ρ κ H.size hokq
  have hrm := jroom (R := R) hb.1 hs.1.2.2.2 C.2.2.2.2.2.2.2.1 C.2.2.2.2.2.2.2.2.1
  have fx : CallFix p m c mi.2.1 mi.2.2.1 s args jG mi.1.cls := ⟨C.1, C.2.1, C.2.2.1, C.2.2.2.2.2.1, C.2.2.2.2.2.2.1⟩
  have hM := vx_toMet hM (fun E st t h => by obtain ⟨⟨M', _, _, hx, _⟩, _⟩ := h; exact hX0 _ _ hx)
  obtain ⟨q', hq', hqn⟩ := Option.map_eq_some_iff.mp hqc
  have he := jw_at (ρ := ρ) (κ := κ) hq
  have hci : ci < 100 := Nat.lt_of_lt_of_le (List.getElem?_eq_some_iff.mp hq').1 (Nat.le_of_ble_eq_true rfl)
  rw [jcell_obj hci] at he
  have hrv := va_recv C.2.2.2.2.2.2.2.2.2.1 hW.1 hq' he
  rw [hqn] at hrv
  have hnw := C.2.2.2.2.2.2.2.2.2.2.2.2.2.2.1.1 _ _ _ _ hl
  exact jcont C hW hL hS2 h1 h2 hb.2 (vx_ofRun (va_runVN (As := As.map (jre ρ)) fx hM ⟨va_cnB As.length C.2.2.2.2.2.2.1 (jws_good hs.1) rfl rfl rfl hnw (C.2.2.2.2.2.2.1 _ hs.1.2.1) hs.1.2.2.1 hrm, C.2.2.2.2.2.2.1 _ hs.2.1, C.2.2.2.2.2.2.1 _ hs.2.2⟩ ⟨jPre_blind, hrv, fun U hU hw => ⟨rfl, hpre U hU hw⟩⟩ rfl (List.length_map _) hL.2.1 rfl (lv_room (jcatS hcat)) d ⟨by omega, by omega⟩))
    (fun M' ρ' κ' H1 locs1 E q9 ce gX gW gL g1 g2 g3 => F.2.1 M' ρ' κ' ls H1 locs1 _ _ pc _ E q9 ce (hX E M' gX) gW (by omega) (by omega) g1 g2 g3) (fun v M' ρ' κ' H1 locs1 gP gW gL gok => k v M' gP p e R s m args below meth c A n0 ρ0 Q C F ρ' κ' ls H1 locs1 _ _ gW gL gok (by show _ + _ + (_ - _) ≤ _; omega) (by show _ + _ + (_ - _) ≤ _; omega))

set_option maxHeartbeats 1000000 in
theorem J.callS {idx : Nat} {b' : Nat × Nat × Nat} {mi' : jMI} (As : List Value) {P' : Option Value → jM → Prop} {X' : String → jM → Prop} (d : decode mi.2.1 pc = .ok (.invokestatic idx, 3)) (hl : Cond.methodLink mi.1.cls idx mi'.1 ∈ jG) (hs : jSE mi' As.length) (hsame : mi'.1.cls = mi.1.cls) (hb : b'.1 + 1 ≤ b.1 ∧ b'.2.1 ≤ b.2.1 ∧ b'.2.2 ≤ b.2.2) (hc : Con Γ b' mi' As M P' X') (hX : ∀ E M', X' E M' → X E M') (hcat : (S.map fun v => v.category).sum ≤ 8)
    (k : ∀ v M', P' v M' → J Γ (b.1, b.2.1 - b'.2.1, b.2.2 - b'.2.2) mi (pc + 3) L (v.toList ++ S) M' P X) : J Γ b mi pc L (As.reverse ++ S) M P X := by
  intro p e R s m args below meth c A n0 ρ0 Q C F ρ κ ls H locs cells slots hW hL hS h1 h2
  have hS1 := jok_app hS
  have hok : ∀ v ∈ As, jok M.1.length v := fun v hv => hS1.1 v (List.mem_reverse.mpr hv)
  have hpre := jPre_call C hW
  have hS2 : ∀ v ∈ S, jok M.1.length v := hS1.2
  rw [List.map_append, List.map_reverse]
  have hM := hc ρ κ H.size hok
  have hrm := jroom (R := R) hb.1 hs.1.2.2.2 C.2.2.2.2.2.2.2.1 C.2.2.2.2.2.2.2.2.1
  have fx : CallFix p m c mi.2.1 mi.2.2.1 s args jG mi.1.cls := ⟨C.1, C.2.1, C.2.2.1, C.2.2.2.2.2.1, C.2.2.2.2.2.2.1⟩
  have hg : GoodIn jG (wsS mi.1.cls idx mi'.1 (jws mi')) := by
    intro w hw
    rcases List.mem_append.mp hw with h | h
    · simp only [List.mem_cons, List.not_mem_nil, or_false] at h
      rcases h with rfl | rfl | rfl
      · exact jgood hl
      · exact jgood hs.2
      · exact jgood (hsame ▸ hs.1.2.1)
    · exact jws_good hs.1 w h
  exact jcont C hW hL hS2 h1 h2 hb.2 (vx_runS (As := As.map (jre ρ)) fx hM (cwS As.length C.2.2.2.2.2.2.1 hg rfl rfl rfl ⟨hsame, hs.1.2.2.1⟩ hrm) ⟨jPre_blind, fun U hU hw => ⟨rfl, hpre U hU hw⟩⟩ rfl (List.length_map _) hL.2.1 rfl (lv_room (jcatS hcat)) d ⟨by omega, by omega⟩)
    (fun M' ρ' κ' H1 locs1 E q9 ce gX gW gL g1 g2 g3 => F.2.1 M' ρ' κ' ls H1 locs1 _ _ pc _ E q9 ce (hX E M' gX) gW (by omega) (by omega) g1 g2 g3) (fun v M' ρ' κ' H1 locs1 gP gW gL gok => k v M' gP p e R s m args below meth c A n0 ρ0 Q C F ρ' κ' ls H1 locs1 _ _ gW gL gok (by show _ + _ + (_ - _) ≤ _; omega) (by show _ + _ + (_ - _) ≤ _; omega))

set_option maxHeartbeats 1000000 in
theorem J.callSN {idx : Nat} {host : String} {b' : Nat × Nat × Nat} {mi' : jMI} (As : List Value) {P' : Option Value → jM → Prop} {X' : String → jM → Prop} (d : decode mi.2.1 pc = .ok (.invokestatic idx, 3)) (hl : Cond.methodLinkNest mi.1.cls idx mi'.1 host ∈ lw_tbl) (hs : jSE mi' As.length) (hb : b'.1 + 1 ≤ b.1 ∧ b'.2.1 ≤ b.2.1 ∧ b'.2.2 ≤ b.2.2) (hc : Con Γ b' mi' As M P' X') (hX0 : ∀ E M', ¬ X' E M') (hX : ∀ E M', X' E M' → X E M') (hcat : (S.map fun v => v.category).sum ≤ 8)
    (k : ∀ v M', P' v M' → J Γ (b.1, b.2.1 - b'.2.1, b.2.2 - b'.2.2) mi (pc + 3) L (v.toList ++ S) M' P X) : J Γ b mi pc L (As.reverse ++ S) M P X := by
  intro p e R s m args below meth c A n0 ρ0 Q C F ρ κ ls H locs cells slots hW hL hS h1 h2
  have hS1 := jok_app hS
  have hok : ∀ v ∈ As, jok M.1.length v := fun v hv => hS1.1 v (List.mem_reverse.mpr hv)
  have hpre := jPre_call C hW
  have hS2 : ∀ v ∈ S, jok M.1.length v := hS1.2
  rw [List.map_append, List.map_reverse]
  have hM := hc ρ κ H.size hok
  have hrm := jroom (R := R) hb.1 hs.1.2.2.2 C.2.2.2.2.2.2.2.1 C.2.2.2.2.2.2.2.2.1
  have fx : CallFix p m c mi.2.1 mi.2.2.1 s args jG mi.1.cls := ⟨C.1, C.2.1, C.2.2.1, C.2.2.2.2.2.1, C.2.2.2.2.2.2.1⟩
  have hM := vx_toMet hM (fun E st t h => by obtain ⟨⟨M', _, _, hx, _⟩, _⟩ := h; exact hX0 _ _ hx)
  have hnw := C.2.2.2.2.2.2.2.2.2.2.2.2.2.2.1.1 _ _ _ _ hl
  exact jcont C hW hL hS2 h1 h2 hb.2 (vx_ofRun (va_runSN (As := As.map (jre ρ)) fx hM ⟨va_cnB As.length C.2.2.2.2.2.2.1 (jws_good hs.1) rfl rfl rfl hnw (C.2.2.2.2.2.2.1 _ hs.1.2.1) hs.1.2.2.1 hrm, C.2.2.2.2.2.2.1 _ hs.2, trivial⟩ ⟨jPre_blind, fun U hU hw => ⟨rfl, hpre U hU hw⟩⟩ rfl (List.length_map _) hL.2.1 rfl (lv_room (jcatS hcat)) d ⟨by omega, by omega⟩))
    (fun M' ρ' κ' H1 locs1 E q9 ce gX gW gL g1 g2 g3 => F.2.1 M' ρ' κ' ls H1 locs1 _ _ pc _ E q9 ce (hX E M' gX) gW (by omega) (by omega) g1 g2 g3) (fun v M' ρ' κ' H1 locs1 gP gW gL gok => k v M' gP p e R s m args below meth c A n0 ρ0 Q C F ρ' κ' ls H1 locs1 _ _ gW gL gok (by show _ + _ + (_ - _) ≤ _; omega) (by show _ + _ + (_ - _) ≤ _; omega))

set_option maxHeartbeats 1000000 in
theorem J.callI {q idx : Nat} {b' : Nat × Nat × Nat} {mi' : jMI} (As : List Value) {P' : Option Value → jM → Prop} {X' : String → jM → Prop} (d : decode mi.2.1 pc = .ok (.invokespecial idx, 3)) (hl : Cond.methodLink mi.1.cls idx mi'.1 ∈ jG) (hs : jIE mi' As.length) (hb : b'.1 + 1 ≤ b.1 ∧ b'.2.1 ≤ b.2.1 ∧ b'.2.2 ≤ b.2.2) (hc : Con Γ b' mi' (.ref q :: As) M P' X') (hX0 : ∀ E M', ¬ X' E M') (hX : ∀ E M', X' E M' → X E M') (hcat : (S.map fun v => v.category).sum ≤ 8)
    (k : ∀ v M', P' v M' → J Γ (b.1, b.2.1 - b'.2.1, b.2.2 - b'.2.2) mi (pc + 3) L (v.toList ++ S) M' P X) : J Γ b mi pc L (As.reverse ++ .ref q :: S) M P X := by
  intro p e R s m args below meth c A n0 ρ0 Q C F ρ κ ls H locs cells slots hW hL hS h1 h2
  have hS1 := jok_app hS
  have hok : ∀ v ∈ As, jok M.1.length v := fun v hv => hS1.1 v (List.mem_reverse.mpr hv)
  have hpre := jPre_call C hW
  have hokq : ∀ v ∈ Value.ref q :: As, jok M.1.length v := List.forall_mem_cons.mpr ⟨hS1.2 _ List.mem_cons_self, hok⟩
  have hS2 : ∀ v ∈ S, jok M.1.length v := jS_tl hS1.2
  rw [List.map_append, List.map_reverse]
  have hM := hc ρ κ H.size hokq
  have hrm := jroom (R := R) hb.1 hs.1.2.2.2 C.2.2.2.2.2.2.2.1 C.2.2.2.2.2.2.2.2.1
  have fx : CallFix p m c mi.2.1 mi.2.2.1 s args jG mi.1.cls := ⟨C.1, C.2.1, C.2.2.1, C.2.2.2.2.2.1, C.2.2.2.2.2.2.1⟩
  have hM := vx_toMet hM (fun E st t h => by obtain ⟨⟨M', _, _, hx, _⟩, _⟩ := h; exact hX0 _ _ hx)
  have hcw := cwI As.length C.2.2.2.2.2.2.1 (jws_good hs.1) (show jws mi' = Cond.code mi'.1 mi'.2.1 mi'.2.2.1 none :: jG by unfold jws; rw [hs.2.2.2]) rfl rfl (C.2.2.2.2.2.2.1 _ hs.1.2.1) (C.2.2.2.2.2.2.1 _ hl) (C.2.2.2.2.2.2.1 _ hs.2.1) hs.2.2.1 hs.1.2.2.1 hrm
  exact jcont C hW hL hS2 h1 h2 hb.2 (vx_ofRun (va_runI (As := As.map (jre ρ)) fx hM hcw ⟨jPre_blind, fun U hU hw => ⟨rfl, hpre U hU hw⟩⟩ rfl (List.length_map _) hL.2.1 rfl (lv_room (jcatS hcat)) d ⟨by omega, by omega⟩))
    (fun M' ρ' κ' H1 locs1 E q9 ce gX gW gL g1 g2 g3 => F.2.1 M' ρ' κ' ls H1 locs1 _ _ pc _ E q9 ce (hX E M' gX) gW (by omega) (by omega) g1 g2 g3) (fun v M' ρ' κ' H1 locs1 gP gW gL gok => k v M' gP p e R s m args below meth c A n0 ρ0 Q C F ρ' κ' ls H1 locs1 _ _ gW gL gok (by show _ + _ + (_ - _) ≤ _; omega) (by show _ + _ + (_ - _) ≤ _; omega))

set_option maxHeartbeats 1000000 in
theorem J.callIN {q idx : Nat} {host : String} {b' : Nat × Nat × Nat} {mi' : jMI} (As : List Value) {P' : Option Value → jM → Prop} {X' : String → jM → Prop} (d : decode mi.2.1 pc = .ok (.invokespecial idx, 3)) (hl : Cond.methodLinkNest mi.1.cls idx mi'.1 host ∈ lw_tbl) (hs : jIE mi' As.length) (hb : b'.1 + 1 ≤ b.1 ∧ b'.2.1 ≤ b.2.1 ∧ b'.2.2 ≤ b.2.2) (hc : Con Γ b' mi' (.ref q :: As) M P' X') (hX0 : ∀ E M', ¬ X' E M') (hX : ∀ E M', X' E M' → X E M') (hcat : (S.map fun v => v.category).sum ≤ 8)
    (k : ∀ v M', P' v M' → J Γ (b.1, b.2.1 - b'.2.1, b.2.2 - b'.2.2) mi (pc + 3) L (v.toList ++ S) M' P X) : J Γ b mi pc L (As.reverse ++ .ref q :: S) M P X := by
  intro p e R s m args below meth c A n0 ρ0 Q C F ρ κ ls H locs cells slots hW hL hS h1 h2
  have hS1 := jok_app hS
  have hok : ∀ v ∈ As, jok M.1.length v := fun v hv => hS1.1 v (List.mem_reverse.mpr hv)
  have hpre := jPre_call C hW
  have hokq : ∀ v ∈ Value.ref q :: As, jok M.1.length v := List.forall_mem_cons.mpr ⟨hS1.2 _ List.mem_cons_self, hok⟩
  have hS2 : ∀ v ∈ S, jok M.1.length v := jS_tl hS1.2
  rw [List.map_append, List.map_reverse]
  have hM := hc ρ κ H.size hokq
  have hrm := jroom (R := R) hb.1 hs.1.2.2.2 C.2.2.2.2.2.2.2.1 C.2.2.2.2.2.2.2.2.1
  have fx : CallFix p m c mi.2.1 mi.2.2.1 s args jG mi.1.cls := ⟨C.1, C.2.1, C.2.2.1, C.2.2.2.2.2.1, C.2.2.2.2.2.2.1⟩
  have hM := vx_toMet hM (fun E st t h => by obtain ⟨⟨M', _, _, hx, _⟩, _⟩ := h; exact hX0 _ _ hx)
  have hnw := C.2.2.2.2.2.2.2.2.2.2.2.2.2.2.1.1 _ _ _ _ hl
  have hcn := va_cnB As.length C.2.2.2.2.2.2.1 (jws_good hs.1) (show jws mi' = Cond.code mi'.1 mi'.2.1 mi'.2.2.1 none :: jG by unfold jws; rw [hs.2.2.2]) rfl rfl hnw (C.2.2.2.2.2.2.1 _ hs.1.2.1) hs.1.2.2.1 hrm
  exact jcont C hW hL hS2 h1 h2 hb.2 (vx_ofRun (va_runIN (As := As.map (jre ρ)) fx hM ⟨hcn, hs.2.2.1, C.2.2.2.2.2.2.1 _ hs.2.1⟩ ⟨jPre_blind, fun U hU hw => ⟨rfl, hpre U hU hw⟩⟩ rfl (List.length_map _) hL.2.1 rfl (lv_room (jcatS hcat)) d ⟨by omega, by omega⟩))
    (fun M' ρ' κ' H1 locs1 E q9 ce gX gW gL g1 g2 g3 => F.2.1 M' ρ' κ' ls H1 locs1 _ _ pc _ E q9 ce (hX E M' gX) gW (by omega) (by omega) g1 g2 g3) (fun v M' ρ' κ' H1 locs1 gP gW gL gok => k v M' gP p e R s m args below meth c A n0 ρ0 Q C F ρ' κ' ls H1 locs1 _ _ gW gL gok (by show _ + _ + (_ - _) ≤ _; omega) (by show _ + _ + (_ - _) ≤ _; omega))
end JL
end
section
section JL2
variable {Γ : jE} {b : Nat × Nat × Nat} {mi : jMI} {pc : Nat} {L : List (Option Value)} {S : List Value} {M : jM} {P : Option Value → jM → Prop} {X : String → jM → Prop}
/-- rows that are not yet used are blank -/
def jFr (M : jM) : Prop := M.1.length < 1000000 ∧ ∀ q, M.1.length ≤ q → (∀ i, M.2.1 q i = none) ∧ (∀ i, M.2.2.1 q i = 0) ∧ (∀ i, M.2.2.2.1 q i = 0) ∧ ∀ i, M.2.2.2.2 q i = 0
theorem jw_app {ρ ρ' : Nat → Nat} {κ κ' : Nat → ClassId} {z : Nat × Nat} (hρ : ∀ k, k < M.1.length → ρ' k = ρ k ∧ κ' k = κ k) (hτ : ∀ q i r, M.2.1 q i = some r → r < M.1.length) :
    jw ρ' κ' (M.1 ++ [z], M.2) = jw ρ κ M ++ [(ρ' M.1.length, jcell ρ' κ' (M.1 ++ [z], M.2) M.1.length z)] := by
  unfold jw
  rw [List.mapIdx_append]
  congr 1
  · apply List.ext_getElem?
    intro k
    rw [List.getElem?_mapIdx, List.getElem?_mapIdx]
    cases hk : M.1[k]? with
    | none => rfl
    | some z' =>
      have hlt : k < M.1.length := (List.getElem?_eq_some_iff.mp hk).1
      have hm : ∀ q i, (M.2.1 q i).map ρ' = (M.2.1 q i).map ρ := fun q i => by
        cases hv : M.2.1 q i with
        | none => rfl
        | some r => simp only [Option.map_some, (hρ r (hτ q i r hv)).1]
      simp only [Option.map_some]
      rw [(hρ k hlt).1]
      unfold jcell jfv
      simp only [hm, (hρ k hlt).2]
  · simp
/-- one cell more -/
theorem jW_app {s : State} {A : Nat → Prop} {n0 : Nat} {ρ0 ρ : Nat → Nat} {κ : Nat → ClassId} {H H1 : Heap} {locs : List Loc} {z : Nat × Nat} {q : Nat} {cA : ClassId} {e9 : va_E} (hfr : jFr M) (hW : jW Γ s A n0 ρ0 M ρ κ H locs)
    (hcell : jcell (fun k => if k = M.1.length then q else ρ k) (fun k => if k = M.1.length then cA else κ k) (M.1 ++ [z], M.2) M.1.length z = e9)
    (hP : va_P Γ.2.1 vwCl (jw ρ κ M ++ [(q, e9)]) H1) (hD : va_D A (jw ρ κ M ++ [(q, e9)])) (hS : va_S A s.heap H1 locs) (hK : 100 ≤ z.1 → va_K Γ.2.1 vwCl [(cA, jty z.1)] s) :
    jW Γ s A n0 ρ0 (M.1 ++ [z], M.2) (fun k => if k = M.1.length then q else ρ k) (fun k => if k = M.1.length then cA else κ k) H1 locs := by
  obtain ⟨w1, w2, w3, w4, w5, w6, w7⟩ := hW
  have e := jw_app (M := M) (z := z) (ρ := ρ) (κ := κ) (ρ' := fun k => if k = M.1.length then q else ρ k) (κ' := fun k => if k = M.1.length then cA else κ k) (fun k hk => by simp [Nat.ne_of_lt hk]) w5
  rw [hcell] at e
  simp only [if_true] at e
  refine ⟨by rw [e]; exact hP, by rw [e]; exact hD, hS, fun k z' hk hz => ?_, fun k i r hr => ?_, ?_, fun k hk => ?_⟩
  · have hk : (M.1 ++ [z])[k]? = some z' := hk
    rw [List.getElem?_append] at hk
    split at hk
    · rename_i hlt
      simp only [if_neg (Nat.ne_of_lt hlt)]
      exact w4 k z' hk hz
    · rename_i hge
      have hk0 : k = M.1.length := by
        have := (List.getElem?_eq_some_iff.mp hk).1
        simp at this; omega
      subst hk0
      simp at hk
      subst hk
      simp only [if_true]
      exact hK hz
  · have := w5 k i r hr
    show r < (M.1 ++ [z]).length
    simp; omega
  · show n0 ≤ (M.1 ++ [z]).length
    simp; omega
  · have hne : k ≠ M.1.length := by
      rcases hk with h | h
      · omega
      · have := hfr.1; omega
    simp only [if_neg hne]
    exact w7 k hk
theorem jL_app {ρ : Nat → Nat} {n nL q : Nat} {L : List (Option Value)} {ls : Array Slot} (hn : n < 1000000) (hL : jL ρ n nL L ls) : jL (fun k => if k = n then q else ρ k) (n + 1) nL L ls :=
  ⟨hL.1, hL.2.1, hL.2.2.1, fun i v hi => by
    obtain ⟨u1, u2⟩ := hL.2.2.2 i v hi
    refine ⟨?_, jok_mono (Nat.le_succ n) u2⟩
    rw [jre_ext (ρ := ρ) (n := n) (fun k hk => by have : k ≠ n := by omega
                                                  simp [this]) u2]; exact u1⟩
theorem jre_app {ρ : Nat → Nat} {n q : Nat} {S : List Value} (hn : n < 1000000) (hS : ∀ v ∈ S, jok n v) : S.map (jre (fun k => if k = n then q else ρ k)) = S.map (jre ρ) :=
  jre_map (n := n) (fun k hk => by have : k ≠ n := by omega
                                   simp [this]) hS
/-- the fields of a new object: null or 0 -/
def jDef : Prop := ∀ (ci : Nat) (C : String) (T : u_T) (N : Nat), vwCl[ci]? = some (C, T, N) → ci < 100 ∧ (∀ w ∈ u_ws C T N, w ∈ jG) ∧ ∃ ty0 : Nat → FieldType, (∀ k, k < N → parseFieldDescriptor (T k).2.2.1 = some (ty0 k)) ∧ ∀ k, k < N → defaultValue (ty0 k) = if jrf ci k = true then .null else .int 0
set_option maxHeartbeats 1000000 in
theorem J.new (hdf : jDef) {idx ci N : Nat} {Cn : String} {T : u_T} (d : decode mi.2.1 pc = .ok (.new idx, 3)) (hc : vwCl[ci]? = some (Cn, T, N)) (hl : Cond.classLink mi.1.cls idx Cn ∈ jG) (hi : Cond.instantiable Cn N ∈ jG) (hini : Cond.initialized Cn ∈ jG) (hfr : jFr M) (hb : 1 ≤ b.2.1 ∧ N ≤ b.2.2)
    (k : J Γ (b.1, b.2.1 - 1, b.2.2 - N) mi (pc + 3) L (.ref M.1.length :: S) (M.1 ++ [(ci, N)], M.2) P X) : J Γ b mi pc L S M P X := by
  intro p e R s m args below meth c A n0 ρ0 Q C F ρ κ ls H locs cells slots hW hL hS h1 h2
  obtain ⟨hci, hin, ty0, hty, hdv⟩ := hdf ci Cn T N hc
  have hts := C.2.2.2.2.2.2.1
  refine va_new (fs := (List.range N).map fun j => if jrf ci j = true then Value.null else .int 0) C.1 C.2.1 hts hin ty0 hty C.2.2.2.2.2.1 (hts _ hl) (hts _ hi) (hts _ hini) C.2.2.2.2.2.2.2.2.2.1 hW.1 hW.2.1 hW.2.2.1 C.2.2.2.2.2.2.2.2.2.2.1 hc ?_ (by omega) (by omega) d (fun q H1 hP hD hS1 => ?_)
  · intro j hj
    rw [hdv j hj]
    unfold vp_V
    rw [List.getD_eq_getElem?_getD, List.getElem?_map, List.getElem?_range hj]
    rfl
  have hcell : jcell (fun k => if k = M.1.length then q else ρ k) (fun k => if k = M.1.length then 0 else κ k) (M.1 ++ [(ci, N)], M.2) M.1.length (ci, N) = .inr (ci, (List.range N).map fun j => if jrf ci j = true then Value.null else .int 0) := by
    rw [jcell_obj hci]
    congr 2
    apply List.map_congr_left
    intro j _
    unfold jfv
    obtain ⟨f1, f2, -⟩ := hfr.2 M.1.length (Nat.le_refl _)
    show (if jrf ci j = true then va_rf ((M.2.1 M.1.length j).map _) else Value.int (M.2.2.1 M.1.length j)) = _
    rw [f1 j, f2 j]
    rfl
  have hW2 := jW_app hfr hW hcell hP hD hS1 (fun h => absurd h (Nat.not_le.mpr hci))
  have := k p e R s m args below meth c A n0 ρ0 Q C F _ _ ls H1 locs (cells + 1) (slots + N) hW2 (by show jL _ (M.1 ++ [(ci, N)]).length _ _ _; rw [List.length_append]; exact jL_app hfr.1 hL) (jS_c (v := .ref M.1.length) (Or.inl (by show _ < (M.1 ++ [(ci, N)]).length; simp)) (fun v hv => jok_mono (by show _ ≤ (M.1 ++ [(ci, N)]).length; simp) (hS v hv))) (by show _ + _ + (_ - _) ≤ _; omega) (by show _ + _ + (_ - _) ≤ _; omega)
  rw [List.map_cons, jre_app hfr.1 hS] at this
  simpa [jre] using this

set_option maxHeartbeats 1000000 in
theorem J.newaI {x : Int32} (n : Nat) (d : decode mi.2.1 pc = .ok (.newarray .int, 2)) (hw : Cond.arrayClass .int ∈ jG) (hx : x = Int32.ofNat n) (hn : n < 1000000) (hfr : jFr M) (hb : 1 ≤ b.2.1 ∧ n ≤ b.2.2)
    (k : J Γ (b.1, b.2.1 - 1, b.2.2 - n) mi (pc + 2) L (.ref M.1.length :: S) (M.1 ++ [(100, n)], M.2) P X) : J Γ b mi pc L (.int x :: S) M P X := by
  intro p e R s m args below meth c A n0 ρ0 Q C F ρ κ ls H locs cells slots hW hL hS h1 h2
  have hx2 : x = nI n := hx
  have hS' := jS_tl hS
  have hneg : ¬ x < 0 := by rw [hx2]; exact nI_pos (by omega)
  have hclp : x.toNatClampNeg = n := by rw [hx2]; exact nI_clamp (by omega)
  have hby : n * componentBytes .int ≤ 536870912 := by
    have h8 : componentBytes .int ≤ 8 := by decide
    have := Nat.mul_le_mul_left n h8
    omega
  refine va_newa (atype := .int) (ty := .int) (N' := n) (a0 := (n, .inl (fun _ => 0))) C.1 C.2.1 (C.2.2.2.2.2.2.1 _ hw) rfl C.2.2.2.2.2.2.2.2.2.1 hW.1 hW.2.1 hW.2.2.1 C.2.2.2.2.2.2.2.2.2.2.1 (fun cA => rfl) hneg hclp hby (by omega) (by omega) d (fun q cA H1 hK hP hD hS1 => ?_)
  have hcell : jcell (fun k => if k = M.1.length then q else ρ k) (fun k => if k = M.1.length then cA else κ k) (M.1 ++ [(100, n)], M.2) M.1.length (100, n) = .inl (cA, n, .inl (fun _ => 0)) := by
    obtain ⟨f1, f2, f3, f4⟩ := hfr.2 M.1.length (Nat.le_refl _)
    have e2 : M.2.2.1 M.1.length = fun _ => 0 := funext f2
    have e3 : M.2.2.2.1 M.1.length = fun _ => 0 := funext f3
    have e4 : M.2.2.2.2 M.1.length = fun _ => 0 := funext f4
    unfold jcell
    simp [e2, e3, e4]
  have hW2 := jW_app hfr hW hcell hP hD hS1 (fun _ => ⟨hK.1, fun i z hz => hK.2 i z hz⟩)
  have := k p e R s m args below meth c A n0 ρ0 Q C F _ _ ls H1 locs (cells + 1) (slots + n) hW2 (by show jL _ (M.1 ++ [(100, n)]).length _ _ _; rw [List.length_append]; exact jL_app hfr.1 hL) (jS_c (v := .ref M.1.length) (Or.inl (by show _ < (M.1 ++ [(100, n)]).length; simp)) (fun v hv => jok_mono (by show _ ≤ (M.1 ++ [(100, n)]).length; simp) (hS' v hv))) (by show _ + _ + (_ - _) ≤ _; omega) (by show _ + _ + (_ - _) ≤ _; omega)
  rw [List.map_cons, jre_app hfr.1 hS'] at this
  simpa [jre] using this

set_option maxHeartbeats 1000000 in
theorem J.newaB {x : Int32} (n : Nat) (d : decode mi.2.1 pc = .ok (.newarray .byte, 2)) (hw : Cond.arrayClass .byte ∈ jG) (hx : x = Int32.ofNat n) (hn : n < 1000000) (hfr : jFr M) (hb : 1 ≤ b.2.1 ∧ n ≤ b.2.2)
    (k : J Γ (b.1, b.2.1 - 1, b.2.2 - n) mi (pc + 2) L (.ref M.1.length :: S) (M.1 ++ [(101, n)], M.2) P X) : J Γ b mi pc L (.int x :: S) M P X := by
  intro p e R s m args below meth c A n0 ρ0 Q C F ρ κ ls H locs cells slots hW hL hS h1 h2
  have hx2 : x = nI n := hx
  have hS' := jS_tl hS
  have hneg : ¬ x < 0 := by rw [hx2]; exact nI_pos (by omega)
  have hclp : x.toNatClampNeg = n := by rw [hx2]; exact nI_clamp (by omega)
  have hby : n * componentBytes .byte ≤ 536870912 := by
    have h8 : componentBytes .byte ≤ 8 := by decide
    have := Nat.mul_le_mul_left n h8
    omega
  refine va_newa (atype := .byte) (ty := .byte) (N' := n) (a0 := (n, .inl (fun _ => 0))) C.1 C.2.1 (C.2.2.2.2.2.2.1 _ hw) rfl C.2.2.2.2.2.2.2.2.2.1 hW.1 hW.2.1 hW.2.2.1 C.2.2.2.2.2.2.2.2.2.2.1 (fun cA => rfl) hneg hclp hby (by omega) (by omega) d (fun q cA H1 hK hP hD hS1 => ?_)
  have hcell : jcell (fun k => if k = M.1.length then q else ρ k) (fun k => if k = M.1.length then cA else κ k) (M.1 ++ [(101, n)], M.2) M.1.length (101, n) = .inl (cA, n, .inl (fun _ => 0)) := by
    obtain ⟨f1, f2, f3, f4⟩ := hfr.2 M.1.length (Nat.le_refl _)
    have e2 : M.2.2.1 M.1.length = fun _ => 0 := funext f2
    have e3 : M.2.2.2.1 M.1.length = fun _ => 0 := funext f3
    have e4 : M.2.2.2.2 M.1.length = fun _ => 0 := funext f4
    unfold jcell
    simp [e2, e3, e4]
  have hW2 := jW_app hfr hW hcell hP hD hS1 (fun _ => ⟨hK.1, fun i z hz => hK.2 i z hz⟩)
  have := k p e R s m args below meth c A n0 ρ0 Q C F _ _ ls H1 locs (cells + 1) (slots + n) hW2 (by show jL _ (M.1 ++ [(101, n)]).length _ _ _; rw [List.length_append]; exact jL_app hfr.1 hL) (jS_c (v := .ref M.1.length) (Or.inl (by show _ < (M.1 ++ [(101, n)]).length; simp)) (fun v hv => jok_mono (by show _ ≤ (M.1 ++ [(101, n)]).length; simp) (hS' v hv))) (by show _ + _ + (_ - _) ≤ _; omega) (by show _ + _ + (_ - _) ≤ _; omega)
  rw [List.map_cons, jre_app hfr.1 hS'] at this
  simpa [jre] using this

set_option maxHeartbeats 1000000 in
theorem J.newaC {x : Int32} (n : Nat) (d : decode mi.2.1 pc = .ok (.newarray .char, 2)) (hw : Cond.arrayClass .char ∈ jG) (hx : x = Int32.ofNat n) (hn : n < 1000000) (hfr : jFr M) (hb : 1 ≤ b.2.1 ∧ n ≤ b.2.2)
    (k : J Γ (b.1, b.2.1 - 1, b.2.2 - n) mi (pc + 2) L (.ref M.1.length :: S) (M.1 ++ [(102, n)], M.2) P X) : J Γ b mi pc L (.int x :: S) M P X := by
  intro p e R s m args below meth c A n0 ρ0 Q C F ρ κ ls H locs cells slots hW hL hS h1 h2
  have hx2 : x = nI n := hx
  have hS' := jS_tl hS
  have hneg : ¬ x < 0 := by rw [hx2]; exact nI_pos (by omega)
  have hclp : x.toNatClampNeg = n := by rw [hx2]; exact nI_clamp (by omega)
  have hby : n * componentBytes .char ≤ 536870912 := by
    have h8 : componentBytes .char ≤ 8 := by decide
    have := Nat.mul_le_mul_left n h8
    omega
  refine va_newa (atype := .char) (ty := .char) (N' := n) (a0 := (n, .inl (fun _ => 0))) C.1 C.2.1 (C.2.2.2.2.2.2.1 _ hw) rfl C.2.2.2.2.2.2.2.2.2.1 hW.1 hW.2.1 hW.2.2.1 C.2.2.2.2.2.2.2.2.2.2.1 (fun cA => rfl) hneg hclp hby (by omega) (by omega) d (fun q cA H1 hK hP hD hS1 => ?_)
  have hcell : jcell (fun k => if k = M.1.length then q else ρ k) (fun k => if k = M.1.length then cA else κ k) (M.1 ++ [(102, n)], M.2) M.1.length (102, n) = .inl (cA, n, .inl (fun _ => 0)) := by
    obtain ⟨f1, f2, f3, f4⟩ := hfr.2 M.1.length (Nat.le_refl _)
    have e2 : M.2.2.1 M.1.length = fun _ => 0 := funext f2
    have e3 : M.2.2.2.1 M.1.length = fun _ => 0 := funext f3
    have e4 : M.2.2.2.2 M.1.length = fun _ => 0 := funext f4
    unfold jcell
    simp [e2, e3, e4]
  have hW2 := jW_app hfr hW hcell hP hD hS1 (fun _ => ⟨hK.1, fun i z hz => hK.2 i z hz⟩)
  have := k p e R s m args below meth c A n0 ρ0 Q C F _ _ ls H1 locs (cells + 1) (slots + n) hW2 (by show jL _ (M.1 ++ [(102, n)]).length _ _ _; rw [List.length_append]; exact jL_app hfr.1 hL) (jS_c (v := .ref M.1.length) (Or.inl (by show _ < (M.1 ++ [(102, n)]).length; simp)) (fun v hv => jok_mono (by show _ ≤ (M.1 ++ [(102, n)]).length; simp) (hS' v hv))) (by show _ + _ + (_ - _) ≤ _; omega) (by show _ + _ + (_ - _) ≤ _; omega)
  rw [List.map_cons, jre_app hfr.1 hS'] at this
  simpa [jre] using this

set_option maxHeartbeats 1000000 in
theorem J.newaL {x : Int32} (n : Nat) (d : decode mi.2.1 pc = .ok (.newarray .long, 2)) (hw : Cond.arrayClass .long ∈ jG) (hx : x = Int32.ofNat n) (hn : n < 1000000) (hfr : jFr M) (hb : 1 ≤ b.2.1 ∧ n ≤ b.2.2)
    (k : J Γ (b.1, b.2.1 - 1, b.2.2 - n) mi (pc + 2) L (.ref M.1.length :: S) (M.1 ++ [(103, n)], M.2) P X) : J Γ b mi pc L (.int x :: S) M P X := by
  intro p e R s m args below meth c A n0 ρ0 Q C F ρ κ ls H locs cells slots hW hL hS h1 h2
  have hx2 : x = nI n := hx
  have hS' := jS_tl hS
  have hneg : ¬ x < 0 := by rw [hx2]; exact nI_pos (by omega)
  have hclp : x.toNatClampNeg = n := by rw [hx2]; exact nI_clamp (by omega)
  have hby : n * componentBytes .long ≤ 536870912 := by
    have h8 : componentBytes .long ≤ 8 := by decide
    have := Nat.mul_le_mul_left n h8
    omega
  refine va_newa (atype := .long) (ty := .long) (N' := n) (a0 := (n, .inr (.inl (fun _ => 0)))) C.1 C.2.1 (C.2.2.2.2.2.2.1 _ hw) rfl C.2.2.2.2.2.2.2.2.2.1 hW.1 hW.2.1 hW.2.2.1 C.2.2.2.2.2.2.2.2.2.2.1 (fun cA => rfl) hneg hclp hby (by omega) (by omega) d (fun q cA H1 hK hP hD hS1 => ?_)
  have hcell : jcell (fun k => if k = M.1.length then q else ρ k) (fun k => if k = M.1.length then cA else κ k) (M.1 ++ [(103, n)], M.2) M.1.length (103, n) = .inl (cA, n, .inr (.inl (fun _ => 0))) := by
    obtain ⟨f1, f2, f3, f4⟩ := hfr.2 M.1.length (Nat.le_refl _)
    have e2 : M.2.2.1 M.1.length = fun _ => 0 := funext f2
    have e3 : M.2.2.2.1 M.1.length = fun _ => 0 := funext f3
    have e4 : M.2.2.2.2 M.1.length = fun _ => 0 := funext f4
    unfold jcell
    simp [e2, e3, e4]
  have hW2 := jW_app hfr hW hcell hP hD hS1 (fun _ => ⟨hK.1, fun i z hz => hK.2 i z hz⟩)
  have := k p e R s m args below meth c A n0 ρ0 Q C F _ _ ls H1 locs (cells + 1) (slots + n) hW2 (by show jL _ (M.1 ++ [(103, n)]).length _ _ _; rw [List.length_append]; exact jL_app hfr.1 hL) (jS_c (v := .ref M.1.length) (Or.inl (by show _ < (M.1 ++ [(103, n)]).length; simp)) (fun v hv => jok_mono (by show _ ≤ (M.1 ++ [(103, n)]).length; simp) (hS' v hv))) (by show _ + _ + (_ - _) ≤ _; omega) (by show _ + _ + (_ - _) ≤ _; omega)
  rw [List.map_cons, jre_app hfr.1 hS'] at this
  simpa [jre] using this

set_option maxHeartbeats 1000000 in
theorem J.newaD {x : Int32} (n : Nat) (d : decode mi.2.1 pc = .ok (.newarray .double, 2)) (hw : Cond.arrayClass .double ∈ jG) (hx : x = Int32.ofNat n) (hn : n < 1000000) (hfr : jFr M) (hb : 1 ≤ b.2.1 ∧ n ≤ b.2.2)
    (k : J Γ (b.1, b.2.1 - 1, b.2.2 - n) mi (pc + 2) L (.ref M.1.length :: S) (M.1 ++ [(104, n)], M.2) P X) : J Γ b mi pc L (.int x :: S) M P X := by
  intro p e R s m args below meth c A n0 ρ0 Q C F ρ κ ls H locs cells slots hW hL hS h1 h2
  have hx2 : x = nI n := hx
  have hS' := jS_tl hS
  have hneg : ¬ x < 0 := by rw [hx2]; exact nI_pos (by omega)
  have hclp : x.toNatClampNeg = n := by rw [hx2]; exact nI_clamp (by omega)
  have hby : n * componentBytes .double ≤ 536870912 := by
    have h8 : componentBytes .double ≤ 8 := by decide
    have := Nat.mul_le_mul_left n h8
    omega
  refine va_newa (atype := .double) (ty := .double) (N' := n) (a0 := (n, .inr (.inr (.inr (.inl (fun _ => 0)))))) C.1 C.2.1 (C.2.2.2.2.2.2.1 _ hw) rfl C.2.2.2.2.2.2.2.2.2.1 hW.1 hW.2.1 hW.2.2.1 C.2.2.2.2.2.2.2.2.2.2.1 (fun cA => rfl) hneg hclp hby (by omega) (by omega) d (fun q cA H1 hK hP hD hS1 => ?_)
  have hcell : jcell (fun k => if k = M.1.length then q else ρ k) (fun k => if k = M.1.length then cA else κ k) (M.1 ++ [(104, n)], M.2) M.1.length (104, n) = .inl (cA, n, .inr (.inr (.inr (.inl (fun _ => 0))))) := by
    obtain ⟨f1, f2, f3, f4⟩ := hfr.2 M.1.length (Nat.le_refl _)
    have e2 : M.2.2.1 M.1.length = fun _ => 0 := funext f2
    have e3 : M.2.2.2.1 M.1.length = fun _ => 0 := funext f3
    have e4 : M.2.2.2.2 M.1.length = fun _ => 0 := funext f4
    unfold jcell
    simp [e2, e3, e4]
  have hW2 := jW_app hfr hW hcell hP hD hS1 (fun _ => ⟨hK.1, fun i z hz => hK.2 i z hz⟩)
  have := k p e R s m args below meth c A n0 ρ0 Q C F _ _ ls H1 locs (cells + 1) (slots + n) hW2 (by show jL _ (M.1 ++ [(104, n)]).length _ _ _; rw [List.length_append]; exact jL_app hfr.1 hL) (jS_c (v := .ref M.1.length) (Or.inl (by show _ < (M.1 ++ [(104, n)]).length; simp)) (fun v hv => jok_mono (by show _ ≤ (M.1 ++ [(104, n)]).length; simp) (hS' v hv))) (by show _ + _ + (_ - _) ≤ _; omega) (by show _ + _ + (_ - _) ≤ _; omega)
  rw [List.map_cons, jre_app hfr.1 hS'] at this
  simpa [jre] using this

set_option maxHeartbeats 1000000 in
theorem J.anew {x : Int32} {idx : Nat} (n : Nat) (d : decode mi.2.1 pc = .ok (.anewarray idx, 3)) (hl : Cond.classLink mi.1.cls idx "DominoChains$State" ∈ jG) (hx : x = Int32.ofNat n) (hn : n < 1000000) (hfr : jFr M) (hb : 1 ≤ b.2.1 ∧ n ≤ b.2.2)
    (k : J Γ (b.1, b.2.1 - 1, b.2.2 - n) mi (pc + 3) L (.ref M.1.length :: S) (M.1 ++ [(105, n)], M.2) P X) : J Γ b mi pc L (.int x :: S) M P X := by
  intro p e R s m args below meth c A n0 ρ0 Q C F ρ κ ls H locs cells slots hW hL hS h1 h2
  have hx2 : x = nI n := hx
  have hS' := jS_tl hS
  have hneg : ¬ x < 0 := by rw [hx2]; exact nI_pos (by omega)
  have hclp : x.toNatClampNeg = n := by rw [hx2]; exact nI_clamp (by omega)
  refine va_newq (N' := n) C.1 C.2.1 C.2.2.2.2.2.1 (C.2.2.2.2.2.2.1 _ hl) C.2.2.2.2.2.2.2.2.2.2.2.2.2.2.1.2.2.1 C.2.2.2.2.2.2.2.2.2.1 hW.1 hW.2.1 hW.2.2.1 C.2.2.2.2.2.2.2.2.2.2.1 hneg hclp (by omega) (by omega) (by omega) d (fun q cA H1 hK hP hD hS1 => ?_)
  have hcell : jcell (fun k => if k = M.1.length then q else ρ k) (fun k => if k = M.1.length then cA else κ k) (M.1 ++ [(105, n)], M.2) M.1.length (105, n) = .inl (cA, n, .inr (.inr (.inr (.inr (fun _ => none))))) := by
    obtain ⟨f1, f2, f3, f4⟩ := hfr.2 M.1.length (Nat.le_refl _)
    unfold jcell
    simp [f1]
  have hW2 := jW_app hfr hW hcell hP hD hS1 (fun _ => ⟨hK.1, fun i z hz => hK.2 i z hz⟩)
  have := k p e R s m args below meth c A n0 ρ0 Q C F _ _ ls H1 locs (cells + 1) (slots + n) hW2 (by show jL _ (M.1 ++ [(105, n)]).length _ _ _; rw [List.length_append]; exact jL_app hfr.1 hL) (jS_c (v := .ref M.1.length) (Or.inl (by show _ < (M.1 ++ [(105, n)]).length; simp)) (fun v hv => jok_mono (by show _ ≤ (M.1 ++ [(105, n)]).length; simp) (hS' v hv))) (by show _ + _ + (_ - _) ≤ _; omega) (by show _ + _ + (_ - _) ≤ _; omega)
  rw [List.map_cons, jre_app hfr.1 hS'] at this
  simpa [jre] using this

theorem J.objInit {q idx : Nat} (d : decode mi.2.1 pc = .ok (.invokespecial idx, 3)) (hl : Cond.methodLink mi.1.cls idx Lib.objectInit ∈ jG) (hi : Cond.instanceMethod Lib.objectInit ∈ jG) (hc : Cond.code Lib.objectInit ⟨#[0xb1]⟩ 1 none ∈ jG) (hcat : (S.map fun v => v.category).sum ≤ 8) (k : J Γ b mi (pc + 3) L S M P X) : J Γ b mi pc L (.ref q :: S) M P X := by
  intro p e R s m args below meth c A n0 ρ0 Q C F ρ κ ls H locs cells slots hW hL hS h1 h2
  have hts := C.2.2.2.2.2.2.1
  have hr1 := C.2.2.2.2.2.2.2.1
  have hr2 := C.2.2.2.2.2.2.2.2.1
  have := lv_room (m := m) (pc := pc) (ls := ls) (rest := S.map (jre ρ)) (jcatS (ρ := ρ) hcat)
  exact W.objInit C.1 C.2.1 C.2.2.2.2.2.1 (hts _ hl) (hts _ hi) (hts _ hc) rfl (hL.2.1.trans C.2.2.1.symm) rfl d (by omega) (by have h9 : 2 * (F0 m pc ls ((Value.ref q :: S).map (jre ρ))).monitorRoom + ((S.map (jre ρ)).map fun v => v.category).sum ≤ 8 := this; omega) (k p e R s m args below meth c A n0 ρ0 Q C F ρ κ ls H locs cells slots hW hL (jS_tl hS) h1 h2)

theorem J.mmax {x y : Int32} {idx : Nat} (d : decode mi.2.1 pc = .ok (.invokestatic idx, 3)) (hl : Cond.methodLink mi.1.cls idx Lib.Math.max.name ∈ jG) (hs : Cond.static Lib.Math.max.name ∈ jG) (hi : Cond.initialized "java/lang/Math" ∈ jG) (hc : Cond.code Lib.Math.max.name Lib.Math.max.code 2 (some .int) ∈ jG) (hcat : (S.map fun v => v.category).sum ≤ 8) (k : J Γ b mi (pc + 3) L (.int (if x < y then y else x) :: S) M P X) : J Γ b mi pc L (.int y :: .int x :: S) M P X := by
  intro p e R s m args below meth c A n0 ρ0 Q C F ρ κ ls H locs cells slots hW hL hS h1 h2
  have hts := C.2.2.2.2.2.2.1
  have hr1 := C.2.2.2.2.2.2.2.1
  have hr2 := C.2.2.2.2.2.2.2.2.1
  have := jcatS (ρ := ρ) hcat
  exact va_mmax C.1 C.2.1 (C.2.2.1.trans hL.2.1.symm) C.2.2.2.2.2.1 (hts _ hl) (hts _ hs) (hts _ hi) (hts _ hc) (by omega) (by omega) (by omega) (by omega) d (k p e R s m args below meth c A n0 ρ0 Q C F ρ κ ls H locs cells slots hW hL (jS_c (v := .int _) trivial (jS_tl (jS_tl hS))) h1 h2)

theorem J.mmin {x y : Int32} {idx : Nat} (d : decode mi.2.1 pc = .ok (.invokestatic idx, 3)) (hl : Cond.methodLink mi.1.cls idx Lib.Math.min.name ∈ jG) (hs : Cond.static Lib.Math.min.name ∈ jG) (hi : Cond.initialized "java/lang/Math" ∈ jG) (hc : Cond.code Lib.Math.min.name Lib.Math.min.code 2 (some .int) ∈ jG) (hcat : (S.map fun v => v.category).sum ≤ 8) (k : J Γ b mi (pc + 3) L (.int (if y < x then y else x) :: S) M P X) : J Γ b mi pc L (.int y :: .int x :: S) M P X := by
  intro p e R s m args below meth c A n0 ρ0 Q C F ρ κ ls H locs cells slots hW hL hS h1 h2
  have hts := C.2.2.2.2.2.2.1
  have hr1 := C.2.2.2.2.2.2.2.1
  have hr2 := C.2.2.2.2.2.2.2.2.1
  have := jcatS (ρ := ρ) hcat
  exact va_mmin C.1 C.2.1 (C.2.2.1.trans hL.2.1.symm) C.2.2.2.2.2.1 (hts _ hl) (hts _ hs) (hts _ hi) (hts _ hc) (by omega) (by omega) (by omega) (by omega) d (k p e R s m args below meth c A n0 ρ0 Q C F ρ κ ls H locs cells slots hW hL (jS_c (v := .int _) trivial (jS_tl (jS_tl hS))) h1 h2)

def jrow {α : Type} (f : Nat → Nat → α) (q : Nat) (g : Nat → α) : Nat → Nat → α := fun a => if a = q then g else f a
theorem jw_setRow {ρ : Nat → Nat} {κ : Nat → ClassId} {q n : Nat} {g : Nat → Int32} (hs : M.1[q]? = some (100, n)) :
    (jw ρ κ M).set q (ρ q, .inl (κ q, n, .inl g)) = jw ρ κ (M.1, M.2.1, jrow M.2.2.1 q g, M.2.2.2) := by
  have e1 : g = jrow M.2.2.1 q g q := by unfold jrow; rw [if_pos rfl]
  have e4 := jcell_arr (ρ := ρ) (κ := κ) (M := (M.1, M.2.1, jrow M.2.2.1 q g, M.2.2.2)) (q := q) (t := 100) (n := n) (by decide)
  have e5 : (Sum.inl (κ q, n, .inl g) : va_E) = jcell ρ κ (M.1, M.2.1, jrow M.2.2.1 q g, M.2.2.2) q (100, n) := by rw [e4]; exact congrArg (fun z => (Sum.inl (κ q, n, Sum.inl z) : va_E)) e1
  rw [e5]
  refine jw_set hs rfl ?_
  intro a z' ha _
  have e3 : jrow M.2.2.1 q g a = M.2.2.1 a := by unfold jrow; rw [if_neg ha]
  unfold jcell jfv
  simp only [e3]
theorem J.copyi {q0 q1 n0 n1 idx : Nat} {x : Int32} (n : Nat) (d : decode mi.2.1 pc = .ok (.invokestatic idx, 3)) (hl : Cond.methodLink mi.1.cls idx arraycopyName ∈ jG) (hn : Cond.native arraycopyName ∈ jG) (hs : Cond.static arraycopyName ∈ jG) (hi : Cond.initialized "java/lang/System" ∈ jG)
    (g0 : M.1[q0]? = some (100, n0)) (g1 : M.1[q1]? = some (100, n1)) (hx : x = Int32.ofNat n) (hb : n < 1000000) (h4 : n ≤ n0) (h5 : n ≤ n1) (hcat : (S.map fun v => v.category).sum ≤ 8)
    (k : J Γ b mi (pc + 3) L S (M.1, M.2.1, jrow M.2.2.1 q1 (va_cpy (M.2.2.1 q0) (M.2.2.1 q1) 0 0 n), M.2.2.2) P X) : J Γ b mi pc L (.int x :: .int 0 :: .ref q1 :: .int 0 :: .ref q0 :: S) M P X := by
  intro p e R s m args below meth c A n9 ρ0 Q C F ρ κ ls H locs cells slots hW hL hS h1 h2
  have hts := C.2.2.2.2.2.2.1
  have hr1 := C.2.2.2.2.2.2.2.1
  have hr2 := C.2.2.2.2.2.2.2.2.1
  have hcs := jcatS (ρ := ρ) hcat
  have he0 := jw_at (ρ := ρ) (κ := κ) g0
  have he1 := jw_at (ρ := ρ) (κ := κ) g1
  rw [jcell_arr (by decide)] at he0 he1
  have hK0 := hW.2.2.2.1 q0 _ g0 (Nat.le_of_ble_eq_true rfl)
  have hK1 := hW.2.2.2.1 q1 _ g1 (Nat.le_of_ble_eq_true rfl)
  have hK : va_K Γ.2.1 vwCl [(κ q0, .int), (κ q1, .int)] s := by
    refine ⟨hK0.1, fun i z hz => ?_⟩
    match i, hz with
    | 0, hz => exact hK0.2 0 z hz
    | 1, hz => exact hK1.2 0 z hz
    | i + 2, hz => cases hz
  have hx2 : x = nI n := hx
  have hcl : x.toNatClampNeg = n := by rw [hx2]; exact nI_clamp (by omega)
  have hz : (0 : Int32).toNatClampNeg = 0 := rfl
  have hnw : nativeFrameWords "java/lang/System" "arraycopy" 5 + 11 ≤ 100 := by decide
  refine va_copyi C.1 C.2.1 (C.2.2.1.trans hL.2.1.symm) C.2.2.2.2.2.1 (hts _ hl) (hts _ hn) (hts _ hs) (hts _ hi) hK hW.1 hW.2.1 hW.2.2.1 q0 q1 0 1 he0 he1 rfl rfl rfl (by decide) (by decide) (by rw [hx2]; exact nI_pos (by omega)) (by rw [hz, hcl]; omega) (by rw [hz, hcl]; omega) (fun _ _ => rfl) (by omega) (by omega) d (fun H1 locs1 hP1 hD1 hS1 => ?_)
  rw [hz, hcl, jw_setRow g1] at hP1 hD1
  exact k p e R s m args below meth c A n9 ρ0 Q C F ρ κ ls H1 locs1 cells slots ⟨hP1, hD1, hS1, hW.2.2.2⟩ hL (jS_tl (jS_tl (jS_tl (jS_tl (jS_tl hS))))) h1 h2

theorem J.ldcS {idx : Nat} {t : String} (i : Nat) (d : decode mi.2.1 pc = .ok (.ldc idx, 2)) (ht : (mi.1.cls, idx, t) ∈ jStr) (hi : jStrNo t = some i) (k : J Γ b mi (pc + 2) L (.ref (1000000 + i) :: S) M P X) : J Γ b mi pc L S M P X := by
  intro p e R s m args below meth c A n0 ρ0 Q C F ρ κ ls H locs cells slots hW hL hS h1 h2
  obtain ⟨a, h3, h4⟩ := C.2.2.2.2.2.2.2.2.2.2.2.2.2.2.2 _ ht
  have h5 : ρ (1000000 + i) = a := (hW.2.2.2.2.2.2 _ (Or.inr (Nat.le_add_right _ _))).trans (h4 i hi)
  have := k p e R s m args below meth c A n0 ρ0 Q C F ρ κ ls H locs cells slots hW hL (jS_c (v := .ref (1000000 + i)) (Or.inr (Nat.le_add_right _ _)) hS) h1 h2
  refine va_ldcS C.1 C.2.1 C.2.2.2.2.2.1 h3 d ?_
  rw [← h5]
  exact this
theorem J.throwS {E text : String} {names : List String} {ik is ic : Nat} (ht : (mi.1.cls, is, text) ∈ jStr) (hf : Bundle.fit E = true ∧ (∀ n ∈ names, Bundle.fit n = true) ∧ names.length ≤ 2) (hk : Cond.classLink mi.1.cls ik E ∈ jG) (hini : Cond.initialized E ∈ jG) (hat : ∀ w ∈ vx_atS mi.1.cls ic E names, w ∈ jG) (hot : ∀ w ∈ Cond.classLink mi.1.cls ik E :: Cond.initialized E :: vx_atS mi.1.cls ic E names, vx_ot w = true)
    (hd : (decode mi.2.1 pc = .ok (.new ik, 3) ∧ decode mi.2.1 (pc + 3) = .ok (.dup, 1) ∧ decode mi.2.1 (pc + 4) = .ok (.ldc is, 2) ∧ decode mi.2.1 (pc + 6) = .ok (.invokespecial ic, 3) ∧ decode mi.2.1 (pc + 9) = .ok (.athrow, 1)) ∨
     (decode mi.2.1 pc = .ok (.new ik, 3) ∧ decode mi.2.1 (pc + 3) = .ok (.dup, 1) ∧ decode mi.2.1 (pc + 4) = .ok (.ldc_w is, 3) ∧ decode mi.2.1 (pc + 7) = .ok (.invokespecial ic, 3) ∧ decode mi.2.1 (pc + 10) = .ok (.athrow, 1)))
    (hb : 1 ≤ b.2.1 ∧ 6 ≤ b.2.2) (hcat : (S.map fun v => v.category).sum ≤ 8) (hX : X E M) : J Γ b mi pc L S M P X := by
  intro p e R s m args below meth c A n0 ρ0 Q C F ρ κ ls H locs cells slots hW hL hS h1 h2
  have hts := C.2.2.2.2.2.2.1
  obtain ⟨a, h3, -⟩ := C.2.2.2.2.2.2.2.2.2.2.2.2.2.2.2 _ ht
  exact F.2.2 M ρ κ ls H locs cells slots pc _ E text names ik is ic hX hW (by omega) (by omega) hL.2.1 (jcatS hcat) ⟨hf.1, hf.2.1, hf.2.2, hts _ hk, hts _ hini, ⟨a, h3⟩, fun w hw => hts _ (hat w hw), hot⟩ hd
/-- the law's script -/
theorem J.sld {Ls : Nat} {xs : Nat → Int32} {i : Int32} (hsc : Γ.2.2 = some (Ls, xs)) (d : decode mi.2.1 pc = .ok (.iaload, 1)) (hin : vp_in i Ls) (kk : J Γ b mi (pc + 1) L (.int (xs i.toNatClampNeg) :: S) M P X) : J Γ b mi pc L (.int i :: .ref 2000000 :: S) M P X := by
  intro p e R s m args below meth c A n0 ρ0 Q C F ρ κ ls H locs cells slots hW hL hS h1 h2
  obtain ⟨x1, x2, x3⟩ := C.2.2.2.2.2.2.2.2.2.2.2.2.1.2.2.1 Ls xs hsc
  have hρ : ρ 2000000 = ρ0 2000000 := hW.2.2.2.2.2.2 _ (Or.inr (Nat.le_of_ble_eq_true rfl))
  rw [← hρ] at x1 x2 x3
  exact va_sld C.1 C.2.1 x1 x2 x3 hW.2.2.1 hin d (kk p e R s m args below meth c A n0 ρ0 Q C F ρ κ ls H locs cells slots hW hL (jS_c (v := .int _) trivial (jS_tl (jS_tl hS))) h1 h2)
theorem J.slen {Ls : Nat} {xs : Nat → Int32} (hsc : Γ.2.2 = some (Ls, xs)) (d : decode mi.2.1 pc = .ok (.arraylength, 1)) (kk : J Γ b mi (pc + 1) L (.int (Int32.ofNat Ls) :: S) M P X) : J Γ b mi pc L (.ref 2000000 :: S) M P X := by
  intro p e R s m args below meth c A n0 ρ0 Q C F ρ κ ls H locs cells slots hW hL hS h1 h2
  obtain ⟨x1, x2, x3⟩ := C.2.2.2.2.2.2.2.2.2.2.2.2.1.2.2.1 Ls xs hsc
  have hρ : ρ 2000000 = ρ0 2000000 := hW.2.2.2.2.2.2 _ (Or.inr (Nat.le_of_ble_eq_true rfl))
  rw [← hρ] at x1 x2 x3
  exact va_slen C.1 C.2.1 x1 x2 x3 hW.2.2.1 d (kk p e R s m args below meth c A n0 ρ0 Q C F ρ κ ls H locs cells slots hW hL (jS_c (v := .int _) trivial (jS_tl hS)) h1 h2)
end JL2
end
